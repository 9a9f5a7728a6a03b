/-! PURE PART: the reference's search. -/
def MC (M : Mm) (G : Lay) (B : Nat → Nat) (en : Nat) : Prop := M 0 0 = nI (G 0 0) ∧ M 0 1 = nI (G 1 0) ∧ (∀ k, k < G 1 0 → ∀ j, j < 3 → M 0 (14 + 6 * k + j) = nI (G (4 + j) k)) ∧ (∀ p, p < G 0 0 → F_X5_unitsOf M (nI p) = some (nI (B (256 + p)))) ∧ (∀ p t, p < G 0 0 → t < 16 → F_X5_roomOf M (nI p) = some (nI (B (160 + 16 * p + t)))) ∧ (∀ k t, k < G 1 0 → t < 16 → F_X5_isOpen M (nI k) (nI t) = some (if 0 < B (16 * k + t) ∧ t + G 6 k ≤ en then 1 else 0)) ∧ (∀ k t, k < G 1 0 → t < 16 → 0 < B (16 * k + t) → M 0 (14 + 6 * k + 3) + (if nI k = M 12 8 then 1 else 0) = nI (B (16 * k + t))) ∧ M 12 5 = nI en ∧ ∀ t, t < 16 → B (160 + t) = 1000000
/-- the same net is told -/
def SC (M M' : Mm) : Prop := M' 0 = M 0 ∧ ∀ j, j ≠ 6 → M' 12 j = M 12 j
theorem MC_sc {M M' : Mm} {G : Lay} {B : Nat → Nat} {en : Nat} (h : MC M G B en) (hs : SC M M') : MC M' G B en := by
  obtain ⟨s1, s2⟩ := hs
  have eU : ∀ x, F_X5_unitsOf M' x = F_X5_unitsOf M x := by intro x; unfold F_X5_unitsOf; rw [s1, s2 10 (by decide), s2 9 (by decide)]
  have eR : ∀ x, F_X5_roomOf M' x = F_X5_roomOf M x := by intro x; unfold F_X5_roomOf; rw [s1, s2 10 (by decide)]
  have eP : ∀ x y, F_X5_pi M' x y = F_X5_pi M x y := by intro x y; unfold F_X5_pi; rw [s1]
  have eO3 : ∀ x y z, F_X5_isOpen_31 M' x y z = F_X5_isOpen_31 M x y z := by intro x y z; unfold F_X5_isOpen_31; rw [s2 7 (by decide), s2 5 (by decide), eP]
  have eO : ∀ x y, F_X5_isOpen M' x y = F_X5_isOpen M x y := by
    intro x y; unfold F_X5_isOpen F_X5_isOpen_26; rw [s2 10 (by decide), eP, eP, eO3, eO3]
  obtain ⟨h1, h2, h3, h4, h5, h6, h7, h8, h9⟩ := h
  exact ⟨by rw [s1]; exact h1, by rw [s1]; exact h2, by rw [s1]; exact h3, fun p hp => by rw [eU]; exact h4 p hp, fun p t hp ht => by rw [eR]; exact h5 p t hp ht, fun k t hk ht => by rw [eO]; exact h6 k t hk ht, fun k t hk ht hb => by rw [s1, s2 8 (by decide)]; exact h7 k t hk ht hb, by rw [s2 5 (by decide)]; exact h8, h9⟩
def RF (M : Mm) (f : Nat → Nat) : Prop := (∀ e, e < 160 → M 8 e = nI (f e)) ∧ (∀ e, e < 96 → M 7 e = nI (f (160 + e))) ∧ ∀ p, p < 6 → M 6 p = nI (f (256 + p))
/-- how the reference writes a step down -/
def cd (x w v c : Nat) : Prop := (c = 0 ∧ x = 120 ∧ w = 2 * (256 + v / 16)) ∨ (c = 1 ∧ x < 96 ∧ w = 2 * (160 + x)) ∨ (c = 2 ∧ x < 96 ∧ w = 2 * (160 + v) + 1) ∨ (∃ k, k < 10 ∧ c = 16 + k ∧ x < 96 ∧ w = 2 * (16 * k + x % 16)) ∨ (∃ k, k < 10 ∧ c = 32 + k ∧ x < 96 ∧ w = 2 * (16 * k + v % 16) + 1)
def ML (M : Mm) (q : Nat) (T : Lay) : Prop := M 12 6 = nI q ∧ cnt (M 9) 96 = q ∧ (∀ i, i < q → M 11 i = nI (T 0 i)) ∧ ∀ v, v < 96 → (M 9 v = -1 ∧ ¬ RE q T v) ∨ (RE q T v ∧ M 9 v = nI (if T 3 v = 120 then v else T 3 v) ∧ ∃ c, M 10 v = nI c ∧ cd (T 3 v) (T 2 v) v c)
/-- a search changes its own rows alone -/
def RS (M M' : Mm) : Prop := (∀ j, j ≠ 9 → j ≠ 10 → j ≠ 11 → j ≠ 12 → M' j = M j) ∧ ∀ j, j ≠ 6 → M' 12 j = M 12 j
theorem RS.refl (M : Mm) : RS M M := ⟨fun _ _ _ _ _ => rfl, fun _ _ => rfl⟩
theorem RS.trans {M M1 M2 : Mm} (h : RS M M1) (h' : RS M1 M2) : RS M M2 := ⟨fun j a b c d => by rw [h'.1 j a b c d, h.1 j a b c d], fun j a => by rw [h'.2 j a, h.2 j a]⟩
theorem RS.sc {M M1 : Mm} (h : RS M M1) : SC M M1 := ⟨h.1 0 (by decide) (by decide) (by decide) (by decide), h.2⟩
theorem RS.rf {M M1 : Mm} {f : Nat → Nat} (h : RS M M1) (hf : RF M f) : RF M1 f := by
  unfold RF
  rw [h.1 6 (by decide) (by decide) (by decide) (by decide), h.1 7 (by decide) (by decide) (by decide) (by decide), h.1 8 (by decide) (by decide) (by decide) (by decide)]
  exact hf
def MS (G : Lay) (B : Nat → Nat) (en : Nat) (f : Nat → Nat) (M : Mm) (q : Nat) (T : Lay) : Prop := SR G B en f q T ∧ ML M q T ∧ MC M G B en ∧ RF M f
theorem pm_reaches {G : Lay} {B : Nat → Nat} {en : Nat} {f : Nat → Nat} {M : Mm} {q : Nat} {T : Lay} {x v w c : Nat} {x2 : Nat} (h : MS G B en f M q T) (hv : v < 96) (hv2 : v % 16 ≤ en) (hv3 : v / 16 < G 0 0) (hx : RE q T x) (hx2 : x2 = if x = 120 then v else x) (hc : cd x w v c) (hs : sp G B en f x w v) : ∃ M' q' T', F_X5_reaches M (nI v) (nI x2) (nI c) = some M' ∧ MS G B en f M' q' T' ∧ RS M M' ∧ EX q T q' T' ∧ RE q' T' v := by
  obtain ⟨hR, hL, hC, hF⟩ := h
  unfold F_X5_reaches
  rw [ck_nI hv (by omega), nI_clamp (by omega)]
  have hx9 : x2 < 96 := by
    rw [hx2]
    rcases RE_lt hR hx with e | e
    · rw [if_pos e]; exact hv
    · rw [if_neg (by omega)]; exact e
  rcases hL.2.2.2 v hv with ⟨c1, c2⟩ | ⟨c1, c2, c3⟩
  · have hq : q < 96 := by rw [← hL.2.1]; exact cnt_lt _ c1 96 hv
    have k1 : M 12 6 = nI q := hL.1
    have hxv : x ≠ v := fun z => c2 (z ▸ hx)
    rw [c1, if_neg (by decide), ck_nI hv (by omega), sv_eq, ck_nI hv (by omega), sv_eq, va_up_ne _ _ (show (12 : Nat) ≠ 10 by decide), va_up_ne _ _ (show (12 : Nat) ≠ 9 by decide), k1, ck_nI hq (by omega), sv_eq, sv_eq, nI_clamp (by omega)]
    have g0 : ∀ M12 : Mm, M12 = va_up (va_up (va_up (va_up M 9 (upd (M 9) v (nI x2))) 10 (upd (va_up M 9 (upd (M 9) v (nI x2)) 10) v (nI c))) 11 (upd (va_up (va_up M 9 (upd (M 9) v (nI x2))) 10 (upd (va_up M 9 (upd (M 9) v (nI x2)) 10) v (nI c)) 11) q (nI v))) 12 (upd (va_up (va_up (va_up M 9 (upd (M 9) v (nI x2))) 10 (upd (va_up M 9 (upd (M 9) v (nI x2)) 10) v (nI c))) 11 (upd (va_up (va_up M 9 (upd (M 9) v (nI x2))) 10 (upd (va_up M 9 (upd (M 9) v (nI x2)) 10) v (nI c)) 11) q (nI v)) 12) 6 (va_up (va_up (va_up M 9 (upd (M 9) v (nI x2))) 10 (upd (va_up M 9 (upd (M 9) v (nI x2)) 10) v (nI c))) 11 (upd (va_up (va_up M 9 (upd (M 9) v (nI x2))) 10 (upd (va_up M 9 (upd (M 9) v (nI x2)) 10) v (nI c)) 11) q (nI v)) 12 6 + 1)) → RS M M12 ∧ M12 9 = upd (M 9) v (nI x2) ∧ M12 10 = upd (M 10) v (nI c) ∧ M12 11 = upd (M 11) q (nI v) ∧ M12 12 6 = nI (q + 1) := by
      intro M12 hM
      subst hM
      refine ⟨⟨fun j a b c d => ?_, fun j hj => ?_⟩, ?_, ?_, ?_, ?_⟩
      · rw [va_up_ne _ _ d, va_up_ne _ _ c, va_up_ne _ _ b, va_up_ne _ _ a]
      · rw [va_up_self, pk_un hj, va_up_ne _ _ (by decide), va_up_ne _ _ (by decide), va_up_ne _ _ (by decide)]
      · rw [va_up_ne _ _ (by decide), va_up_ne _ _ (by decide), va_up_ne _ _ (by decide), va_up_self]
      · rw [va_up_ne _ _ (by decide), va_up_ne _ _ (by decide), va_up_self, va_up_ne _ _ (by decide)]
      · rw [va_up_ne _ _ (by decide), va_up_self, va_up_ne _ _ (by decide), va_up_ne _ _ (by decide)]
      · rw [va_up_self, pk_us, va_up_ne _ _ (by decide), va_up_ne _ _ (by decide), va_up_ne _ _ (by decide), k1, ← nI_succ]
    obtain ⟨a0, a1, a2, a3, a4⟩ := g0 _ rfl
    refine ⟨_, q + 1, tT q T x w v, rfl, ⟨SR_push hR hv hv2 hv3 c2 hx hs, ⟨a4, ?_, fun i hi => ?_, fun u hu => ?_⟩, MC_sc hC a0.sc, a0.rf hF⟩, a0, EX_push q T x w v, RE_push q T x w v⟩
    · rw [a1, cnt_up _ c1 (nI_n1 (by omega)) 96 hv, hL.2.1]
    · rw [a3]
      by_cases e : i = q
      · rw [e, pk_us, tT_0q]
      · rw [pk_un e, tT_0 T x w v e]; exact hL.2.2.1 i (by omega)
    · rw [a1, a2]
      by_cases e : u = v
      · subst e
        right
        rw [pk_us, pk_us, (tT_1 q T x w u).2.1, (tT_1 q T x w u).2.2]
        exact ⟨RE_push q T x w u, by rw [hx2], c, rfl, hc⟩
      · rw [pk_un e, pk_un e, tT_n T x w (by omega) e, tT_n T x w (by omega) e]
        rcases hL.2.2.2 u hu with ⟨d1, d2⟩ | ⟨d1, d2⟩
        · exact Or.inl ⟨d1, fun z => d2 (RE_back z e)⟩
        · exact Or.inr ⟨(EX_push q T x w v).re d1, d2⟩
  · have h3 : (if T 3 v = 120 then v else T 3 v) < 2 ^ 31 := by
      obtain ⟨g6, -⟩ := SR_w hR hv c1
      rcases RE_lt hR g6 with e | e
      · rw [if_pos e]; omega
      · rw [if_neg (by omega)]; omega
    rw [c2, if_pos (nI_pos' h3)]
    exact ⟨M, q, T, rfl, ⟨hR, hL, hC, hF⟩, RS.refl M, EX.refl q T, c1⟩
section REF
variable {G : Lay} {B : Nat → Nat} {en : Nat} {f : Nat → Nat}
theorem pm_pi3 {M : Mm} (hC : MC M G B en) (hB : NB G B) {k j : Nat} (hk : k < G 1 0) (hj : j < 3) : F_X5_pi M (nI k) (nI j) = some (nI (G (4 + j) k)) := by
  have := hB.2.2.1
  rw [pm_pi M (by omega) (by omega), hC.2.2.1 k hk j hj]
theorem pm_looks_187 (hB : NB G B) (hen : en ≤ 15) (hf : ∀ e, e < 262 → f e ≤ cx G B en e) (k68 : Mm → Int32 → Int32 → Int32 → Int32 → Option Mm) {u k : Nat} (hu9 : u < 96) (hue : u % 16 ≤ en) (hun : u / 16 < G 0 0) (hk : k < G 1 0) {M : Mm} {q : Nat} {T : Lay} (hS : MS G B en f M q T) (hr : RE q T u) : ∃ M' q' T', F_X5_looks_187 k68 M (nI u) (nI (u / 16)) (nI (u % 16)) (nI k) (nI (G 6 k)) = k68 M' (nI u) (nI (u / 16)) (nI (u % 16)) (nI (k + 1)) ∧ MS G B en f M' q' T' ∧ RS M M' ∧ EX q T q' T' ∧ ∀ w v, sp G B en f u w v → w / 2 / 16 = k → w % 2 = 1 → RE q' T' v := by
  have hm := hB.2.2.1
  have hm2 := hB.2.1
  obtain ⟨g1, g2, g3, g4, g5⟩ := hB.2.2.2.1 k hk
  unfold F_X5_looks_187
  rw [show (1 : Int32) = nI 1 from rfl, show (0 : Int32) = nI 0 from rfl, pm_pi3 hS.2.2.1 hB hk (by omega), b1_some, pm_pi3 hS.2.2.1 hB hk (by omega), b1_some]
  show ∃ M' q' T', (if nI (G 5 k) = nI (u / 16) then (if nI (u % 16) < nI (G 6 k) then k68 M (nI u) (nI (u / 16)) (nI (u % 16)) (nI k + nI 1) else (ck ((((16 : Int32) * nI k) + nI (u % 16)) - nI (G 6 k)) 160 <| (if (M 8 ((((16 : Int32) * nI k) + nI (u % 16)) - nI (G 6 k)).toNatClampNeg) ≤ nI 0 then k68 M (nI u) (nI (u / 16)) (nI (u % 16)) (nI k + nI 1) else (b1 (F_X5_reaches M ((((16 : Int32) * nI (G 4 k)) + nI (u % 16)) - nI (G 6 k)) (nI u) ((32 : Int32) + nI k)) fun M9 => k68 M9 (nI u) (nI (u / 16)) (nI (u % 16)) (nI k + nI 1))))) else k68 M (nI u) (nI (u / 16)) (nI (u % 16)) (nI k + nI 1)) = _ ∧ _
  rw [nI_add]
  have stay : (∀ w v, sp G B en f u w v → w / 2 / 16 = k → w % 2 = 1 → RE q T v) → ∃ M' q' T', k68 M (nI u) (nI (u / 16)) (nI (u % 16)) (nI (k + 1)) = k68 M' (nI u) (nI (u / 16)) (nI (u % 16)) (nI (k + 1)) ∧ MS G B en f M' q' T' ∧ RS M M' ∧ EX q T q' T' ∧ ∀ w v, sp G B en f u w v → w / 2 / 16 = k → w % 2 = 1 → RE q' T' v := fun h => ⟨M, q, T, rfl, hS, RS.refl M, EX.refl q T, h⟩
  by_cases c3 : G 5 k = u / 16
  · rw [if_pos (by rw [c3])]
    by_cases c4 : u % 16 < G 6 k
    · rw [if_pos (nI_lt c4 (by omega))]
      refine stay (fun w v hs he h1 => ?_)
      obtain ⟨j1, ⟨j2, -⟩ | ⟨j2, j3, j4, j5, j6, j7⟩⟩ := sp_pipe hB hen hf hs (by omega)
      · omega
      · rw [he] at j5; omega
    · rw [if_neg (nI_nlt (by omega) (by omega)), show (16 : Int32) = nI 16 from rfl, pk_mul, nI_add, pk_sub (by omega), pk_mul, nI_add, pk_sub (by omega), show (32 : Int32) = nI 32 from rfl, nI_add, ck_nI (by omega) (by omega), nI_clamp (by omega), hS.2.2.2.1 _ (by omega)]
      have hfb2 : f (16 * k + u % 16 - G 6 k) ≤ 10 := by
        have := hf (16 * k + u % 16 - G 6 k) (by omega)
        have := cx_le (G := G) (B := B) (en := en) (e := 16 * k + u % 16 - G 6 k)
        have := hB.2.2.2.2.2.1 (16 * k + u % 16 - G 6 k) (by omega)
        omega
      by_cases c5 : f (16 * k + u % 16 - G 6 k) = 0
      · rw [if_pos (by rw [c5]; exact Int32.le_refl _)]
        refine stay (fun w v hs he h1 => ?_)
        obtain ⟨j1, ⟨j2, -⟩ | ⟨j2, j3, j4, j5, j6, j7⟩⟩ := sp_pipe hB hen hf hs (by omega)
        · omega
        · rw [he] at j5
          have e1 : w / 2 = 16 * k + u % 16 - G 6 k := by omega
          rw [e1] at j7
          omega
      · rw [if_neg (nI_ge (by omega) (by omega))]
        obtain ⟨M', q', T', a1, a2, a3, a4, a5⟩ := pm_reaches (x := u) (v := 16 * G 4 k + u % 16 - G 6 k) (w := 2 * (16 * k + (u % 16 - G 6 k)) + 1) (c := 32 + k) (x2 := u) hS (by omega) (by omega) (by omega) hr (by rw [if_neg (by omega)]) (Or.inr (Or.inr (Or.inr (Or.inr ⟨k, by omega, rfl, by omega, by omega⟩)))) (by
          have := sp_mkb (G := G) (B := B) (en := en) (f := f) (k := k) (t := u % 16 - G 6 k) hk (by omega) (by omega) (by rw [show 16 * k + (u % 16 - G 6 k) = 16 * k + u % 16 - G 6 k by omega]; omega)
          rw [show 16 * G 5 k + (u % 16 - G 6 k + G 6 k) = u by omega, show 16 * G 4 k + (u % 16 - G 6 k) = 16 * G 4 k + u % 16 - G 6 k by omega] at this
          exact this)
        rw [a1, b1_some]
        refine ⟨M', q', T', rfl, a2, a3, a4, fun w v hs he h1 => ?_⟩
        obtain ⟨j1, ⟨j2, -⟩ | ⟨j2, j3, j4, j5, j6, j7⟩⟩ := sp_pipe hB hen hf hs (by omega)
        · omega
        · rw [he] at j5 j6
          rw [j6, show 16 * G 4 k + w / 2 % 16 = 16 * G 4 k + u % 16 - G 6 k by omega]
          exact a5
  · rw [if_neg (fun z => c3 ((nI_eq (by omega) (by omega)).mp z))]
    refine stay (fun w v hs he h1 => ?_)
    obtain ⟨j1, ⟨j2, -⟩ | ⟨j2, j3, j4, j5, j6, j7⟩⟩ := sp_pipe hB hen hf hs (by omega)
    · omega
    · rw [he] at j4; omega
theorem pm_looks_68 (hB : NB G B) (hen : en ≤ 15) (hf : ∀ e, e < 262 → f e ≤ cx G B en e) {u : Nat} (hu9 : u < 96) (hue : u % 16 ≤ en) (hun : u / 16 < G 0 0) : ∀ (r n k : Nat) (M : Mm) (q : Nat) (T : Lay), k + r = G 1 0 → r < n → MS G B en f M q T → RE q T u → ∃ M' q' T', F_X5_looks_68 n M (nI u) (nI (u / 16)) (nI (u % 16)) (nI k) = some M' ∧ MS G B en f M' q' T' ∧ RS M M' ∧ EX q T q' T' ∧ ∀ w v, sp G B en f u w v → k ≤ w / 2 / 16 → w / 2 < 160 → RE q' T' v
  | r, 0, k, M, q, T, _, h, _, _ => by omega
  | 0, n + 1, k, M, q, T, hk, h, hS, hr => by
    have hm := hB.2.2.1
    have ek : k = G 1 0 := by omega
    show ∃ M' q' T', F_X5_looksB_68 (F_X5_looks_68 n) M (nI u) (nI (u / 16)) (nI (u % 16)) (nI k) = some M' ∧ _
    unfold F_X5_looksB_68
    rw [show (1 : Int32) = nI 1 from rfl, ck_nI (by omega) (by omega), nI_clamp (by omega), hS.2.2.1.2.1, ek, if_pos (nI_le (Nat.le_refl _) (by omega))]
    refine ⟨M, q, T, rfl, hS, RS.refl M, EX.refl q T, fun w v hs hw h1 => ?_⟩
    have := (sp_pipe hB hen hf hs h1).1
    omega
  | r + 1, n + 1, k, M, q, T, hk, h, hS, hr => by
    have hm := hB.2.2.1
    have hm2 := hB.2.1
    have hkm : k < G 1 0 := by omega
    obtain ⟨g1, g2, g3, g4, g5⟩ := hB.2.2.2.1 k hkm
    -- what is left once the way ahead is done
    have next : ∀ (M1 : Mm) (q1 : Nat) (T1 : Lay), MS G B en f M1 q1 T1 → RS M M1 → EX q T q1 T1 → (∀ w v, sp G B en f u w v → w / 2 / 16 = k → w % 2 = 0 → RE q1 T1 v) → ∃ M' q' T', F_X5_looks_187 (F_X5_looks_68 n) M1 (nI u) (nI (u / 16)) (nI (u % 16)) (nI k) (nI (G 6 k)) = some M' ∧ MS G B en f M' q' T' ∧ RS M M' ∧ EX q T q' T' ∧ ∀ w v, sp G B en f u w v → k ≤ w / 2 / 16 → w / 2 < 160 → RE q' T' v := by
      intro M1 q1 T1 a2 a3 a4 a5
      obtain ⟨M2, q2, T2, b1', b2', b3', b4', b5'⟩ := pm_looks_187 hB hen hf (F_X5_looks_68 n) hu9 hue hun hkm a2 (a4.re hr)
      obtain ⟨M', q', T', h1, h2, h3, h4, h5⟩ := pm_looks_68 hB hen hf hu9 hue hun r n (k + 1) M2 q2 T2 (by omega) (by omega) b2' (b4'.re (a4.re hr))
      refine ⟨M', q', T', by rw [b1', h1], h2, (a3.trans b3').trans h3, (a4.trans b4').trans h4, fun w v hs hw hw2 => ?_⟩
      by_cases c : w / 2 / 16 = k
      · by_cases d : w % 2 = 0
        · exact (b4'.trans h4).re (a5 w v hs c d)
        · exact h4.re (b5' w v hs c (by omega))
      · exact h5 w v hs (by omega) hw2
    have skip : (∀ w v, sp G B en f u w v → w / 2 / 16 = k → w % 2 = 0 → RE q T v) → ∃ M' q' T', F_X5_looks_117 (F_X5_looks_68 n) M (nI u) (nI (u / 16)) (nI (u % 16)) (nI k) (nI (G 6 k)) = some M' ∧ MS G B en f M' q' T' ∧ RS M M' ∧ EX q T q' T' ∧ ∀ w v, sp G B en f u w v → k ≤ w / 2 / 16 → w / 2 < 160 → RE q' T' v := by
      intro hq
      unfold F_X5_looks_117 F_X5_looks_118
      rw [if_pos rfl]
      exact next M q T hS (RS.refl M) (EX.refl q T) hq
    show ∃ M' q' T', F_X5_looksB_68 (F_X5_looks_68 n) M (nI u) (nI (u / 16)) (nI (u % 16)) (nI k) = some M' ∧ _
    unfold F_X5_looksB_68
    rw [show (1 : Int32) = nI 1 from rfl, ck_nI (by omega) (by omega), nI_clamp (by omega), hS.2.2.1.2.1, if_neg (nI_ge hkm (by omega)), show (0 : Int32) = nI 0 from rfl, show (2 : Int32) = nI 2 from rfl, pm_pi3 hS.2.2.1 hB hkm (by omega), b1_some, pm_pi3 hS.2.2.1 hB hkm (by omega), b1_some]
    show ∃ M' q' T', (if nI (G 4 k) = nI (u / 16) then (if nI (u / 16) = nI 0 then F_X5_looks_117 (F_X5_looks_68 n) M (nI u) (nI (u / 16)) (nI (u % 16)) (nI k) (nI (G 6 k)) else (b1 (F_X5_isOpen M (nI k) (nI (u % 16))) fun u9 => (if u9 = nI 0 then F_X5_looks_117 (F_X5_looks_68 n) M (nI u) (nI (u / 16)) (nI (u % 16)) (nI k) (nI (G 6 k)) else F_X5_looks_118 (F_X5_looks_68 n) M (nI u) (nI (u / 16)) (nI (u % 16)) (nI k) (nI (G 6 k)) (nI 1)))) else F_X5_looks_117 (F_X5_looks_68 n) M (nI u) (nI (u / 16)) (nI (u % 16)) (nI k) (nI (G 6 k))) = some M' ∧ _
    by_cases c1 : G 4 k = u / 16
    · rw [if_pos (by rw [c1])]
      by_cases c0 : u / 16 = 0
      · rw [if_pos (by rw [c0])]
        refine skip (fun w v hs he h1 => ?_)
        obtain ⟨j1, ⟨j2, j3, j4, j5, j6, j7, j8⟩ | ⟨j2, -⟩⟩ := sp_pipe hB hen hf hs (by omega)
        · rw [he] at j4; omega
        · omega
      · rw [if_neg (fun z => c0 ((nI_eq (by omega) (by omega)).mp z)), hS.2.2.1.2.2.2.2.2.1 k (u % 16) hkm (by omega), b1_some]
        by_cases c2 : 0 < B (16 * k + u % 16) ∧ u % 16 + G 6 k ≤ en
        · rw [if_pos c2, if_neg (show ¬ (1 : Int32) = nI 0 by decide)]
          unfold F_X5_looks_118
          have h3 := hS.2.2.1.2.2.2.2.2.2.1 k (u % 16) hkm (by omega) c2.1
          have hb := hB.2.2.2.2.2.1 (16 * k + u % 16) (by omega)
          have hfe := hf (16 * k + u % 16) (by omega)
          have hfc := cx_le (G := G) (B := B) (en := en) (e := 16 * k + u % 16)
          rw [if_neg (show ¬ nI 1 = (0 : Int32) by decide), show (16 : Int32) = nI 16 from rfl, pk_mul, nI_add, ck_nI (by omega) (by omega), show (3 : Int32) = nI 3 from rfl, pm_pi M (by omega) (by omega), b1_some, nI_clamp (by omega), hS.2.2.2.1 _ (by omega)]
          have key : ∃ M' q' T', F_X5_looks_158 (F_X5_looks_68 n) M (nI u) (nI (u / 16)) (nI (u % 16)) (nI k) (nI (G 6 k)) (if nI k = M 12 8 then 1 else 0) (M 0 (14 + 6 * k + 3)) (nI (f (16 * k + u % 16))) = some M' ∧ MS G B en f M' q' T' ∧ RS M M' ∧ EX q T q' T' ∧ ∀ w v, sp G B en f u w v → k ≤ w / 2 / 16 → w / 2 < 160 → RE q' T' v := by
            unfold F_X5_looks_158
            rw [h3]
            by_cases c3 : B (16 * k + u % 16) ≤ f (16 * k + u % 16)
            · rw [if_pos (nI_le c3 (by omega))]
              refine next M q T hS (RS.refl M) (EX.refl q T) (fun w v hs he h1 => ?_)
              obtain ⟨j1, ⟨j2, j3, j4, j5, j6, j7, j8⟩ | ⟨j2, -⟩⟩ := sp_pipe hB hen hf hs (by omega)
              · have e1 : w / 2 = 16 * k + u % 16 := by omega
                rw [e1] at j8
                omega
              · omega
            · rw [if_neg (nI_ge (by omega) (by omega)), show (1 : Int32) = nI 1 from rfl, pm_pi3 hS.2.2.1 hB hkm (by omega), b1_some, show (16 : Int32) = nI 16 from rfl, pk_mul, nI_add, nI_add, nI_add]
              obtain ⟨M1, q1, T1, a1, a2, a3, a4, a5⟩ := pm_reaches (x := u) (v := 16 * G 5 k + u % 16 + G 6 k) (w := 2 * (16 * k + u % 16)) (c := 16 + k) (x2 := u) hS (by omega) (by omega) (by omega) hr (by rw [if_neg (by omega)]) (Or.inr (Or.inr (Or.inr (Or.inl ⟨k, by omega, rfl, by omega, rfl⟩)))) (by
                have := sp_mk (G := G) (B := B) (en := en) (f := f) (k := k) (t := u % 16) hkm (by omega) (by omega) hen (by omega) (by omega)
                rw [show 16 * G 4 k + u % 16 = u by omega, show 16 * G 5 k + (u % 16 + G 6 k) = 16 * G 5 k + u % 16 + G 6 k by omega] at this
                exact this)
              show ∃ M' q' T', b1 (F_X5_reaches M (nI (16 * G 5 k + u % 16 + G 6 k)) (nI u) (nI (16 + k))) _ = some M' ∧ _
              rw [a1, b1_some]
              refine next M1 q1 T1 a2 a3 a4 (fun w v hs he h1 => ?_)
              obtain ⟨j1, ⟨j2, j3, j4, j5, j6, j7, j8⟩ | ⟨j2, -⟩⟩ := sp_pipe hB hen hf hs (by omega)
              · rw [he] at j7
                rw [j7, show 16 * G 5 k + (u % 16 + G 6 k) = 16 * G 5 k + u % 16 + G 6 k by omega]
                exact a5
              · omega
          by_cases c8 : nI k = M 12 8
          · rw [if_pos c8] at key ⊢; exact key
          · rw [if_neg c8] at key ⊢; exact key
        · rw [if_neg c2, if_pos (show (0 : Int32) = nI 0 from rfl)]
          refine skip (fun w v hs he h1 => ?_)
          obtain ⟨j1, ⟨j2, j3, j4, j5, j6, j7, j8⟩ | ⟨j2, -⟩⟩ := sp_pipe hB hen hf hs (by omega)
          · have e1 : w / 2 = 16 * k + u % 16 := by omega
            rw [e1] at j8
            rw [he] at j6
            exact absurd ⟨by omega, j6⟩ c2
          · omega
    · rw [if_neg (fun z => c1 ((nI_eq (by omega) (by omega)).mp z))]
      refine skip (fun w v hs he h1 => ?_)
      obtain ⟨j1, ⟨j2, j3, j4, j5, j6, j7, j8⟩ | ⟨j2, -⟩⟩ := sp_pipe hB hen hf hs (by omega)
      · rw [he] at j3; omega
      · omega
end REF
