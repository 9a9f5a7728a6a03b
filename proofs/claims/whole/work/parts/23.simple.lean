/-! PURE PART: the simple calls. -/
theorem rg {x : Int32} {a b : Nat} (hab : a ≤ b) (hb : b < 2 ^ 30) (h : nI a ≤ x ∧ x ≤ nI b) : ∃ k, a ≤ k ∧ k ≤ b ∧ x = nI k := by
  have h0 : ¬ x < 0 := fun z => absurd (Int32.lt_of_lt_of_le z (nI_pos' (n := a) (by omega))) (fun z2 => absurd (Int32.lt_of_lt_of_le z2 h.1) (Int32.lt_irrefl))
  obtain ⟨j, h1, h2⟩ := nI_of2 (n := b) (nI_toInt (by omega)) h0 h.2
  subst h2
  exact ⟨j, (nI_leI (by omega) (by omega)).mp h.1, h1, rfl⟩
theorem rg0 {x : Int32} {n : Nat} (hn : n < 2 ^ 30) (h : (0 : Int32) ≤ x ∧ x ≤ nI n - 1) : ∃ k, k < n ∧ x = nI k := by
  cases n with
  | zero =>
    have h2 : (0 : Int32) ≤ nI 0 - 1 := Int32.le_trans h.1 h.2
    exact absurd h2 (by decide)
  | succ n =>
    rw [nI_pred] at h
    obtain ⟨k, h1, h2, h3⟩ := rg (a := 0) (Nat.zero_le n) (by omega) h
    exact ⟨k, by omega, h3⟩
theorem in0 {k n : Nat} (hn : n < 2 ^ 30) (h : k < n) : (0 : Int32) ≤ nI k ∧ nI k ≤ nI n - 1 := by
  cases n with
  | zero => omega
  | succ n => rw [nI_pred]; exact ⟨nI_pos' (by omega), nI_le (by omega) (by omega)⟩
theorem pc_isPlace {L : Mm} {A : Lay} (h : L 3 0 = nI (A 0 0)) (x : Int32) : F_X1_isPlace L x = some (if (0 : Int32) ≤ x ∧ x ≤ nI (A 0 0) - 1 then 1 else 0) := by
  unfold F_X1_isPlace
  rw [pc_within, b1_some, h]
  by_cases c : (0 : Int32) ≤ x ∧ x ≤ nI (A 0 0) - 1
  · rw [if_pos c, cz_1]
  · rw [if_neg c, cz_0]
theorem pc_isPipe {L : Mm} {A : Lay} (h : L 3 1 = nI (A 1 0)) (x : Int32) : F_X1_isPipe L x = some (if (0 : Int32) ≤ x ∧ x ≤ nI (A 1 0) - 1 then 1 else 0) := by
  unfold F_X1_isPipe
  rw [pc_within, b1_some, h]
  by_cases c : (0 : Int32) ≤ x ∧ x ≤ nI (A 1 0) - 1
  · rw [if_pos c, cz_1]
  · rw [if_neg c, cz_0]
theorem pm_isPlace {M : Mm} {A : Lay} (h : M 0 0 = nI (A 0 0)) (x : Int32) : F_X5_isPlace M x = some (if (0 : Int32) ≤ x ∧ x ≤ nI (A 0 0) - 1 then 1 else 0) := by
  show ck (nI 0) 74 (b1 (F_X5_in x (0 : Int32) (M 0 (nI 0).toNatClampNeg - 1)) fun u2 => cz u2 (some u2)) = _
  rw [ck_nI (by omega) (by omega), pr_in, b1_some, nI_clamp (by omega), h]
  by_cases c : (0 : Int32) ≤ x ∧ x ≤ nI (A 0 0) - 1
  · rw [if_pos c, cz_1]
  · rw [if_neg c, cz_0]
theorem pm_isPipe {M : Mm} {A : Lay} (h : M 0 1 = nI (A 1 0)) (x : Int32) : F_X5_isPipe M x = some (if (0 : Int32) ≤ x ∧ x ≤ nI (A 1 0) - 1 then 1 else 0) := by
  show ck (nI 1) 74 (b1 (F_X5_in x (0 : Int32) (M 0 (nI 1).toNatClampNeg - 1)) fun u2 => cz u2 (some u2)) = _
  rw [ck_nI (by omega) (by omega), pr_in, b1_some, nI_clamp (by omega), h]
  by_cases c : (0 : Int32) ≤ x ∧ x ≤ nI (A 1 0) - 1
  · rw [if_pos c, cz_1]
  · rw [if_neg c, cz_0]
theorem pc_badOfPlace (L : Mm) (x1 x2 : Int32) : F_X1_badOfPlace L x1 x2 = some (if (0 : Int32) ≤ x1 ∧ x1 ≤ 20 then (if (0 : Int32) ≤ x2 ∧ x2 ≤ 40 then -1 else 1) else 0) := by
  unfold F_X1_badOfPlace
  rw [pc_within, b1_some, pc_within]
  by_cases c1 : (0 : Int32) ≤ x1 ∧ x1 ≤ 20
  · rw [if_pos c1, if_pos c1, if_neg (by decide), b1_some]
    by_cases c2 : (0 : Int32) ≤ x2 ∧ x2 ≤ 40
    · rw [if_pos c2, if_pos c2, if_neg (by decide)]
    · rw [if_neg c2, if_neg c2, if_pos rfl]
  · rw [if_neg c1, if_neg c1, if_pos rfl]
/-- what the relation says of the reference rests on four of its rows -/
theorem INV_M {L K : Mm} {P : Nat → Nat} {Hs : Nat → Mm} {S N T R M M' S' N' R' : Mm} (h : INV L K P Hs S N T R M) (h0 : M' 0 = M 0) (h1 : M' 1 = M 1) (h4 : M' 4 = M 4) (h12 : ∀ j, j < 2 ∨ 7 ≤ j → M' 12 j = M 12 j) : INV L K P Hs S' N' T R' M' := by
  obtain ⟨A, kept, Ah, len, hB, hL, hM, hC, hH, hT, hF⟩ := h
  refine ⟨A, kept, Ah, len, hB, hL, by rw [h0]; exact hM, hC, ⟨by rw [h12 0 (by omega)]; exact hH.1, fun i hi => ?_⟩, ⟨hT.1, hT.2.1, by rw [h12 1 (by omega)]; exact hT.2.2.1, by rw [h4]; exact hT.2.2.2⟩, by rw [h12 7 (by omega)]; exact hF.1, by rw [h12 8 (by omega)]; exact hF.2.1, by rw [h12 9 (by omega)]; exact hF.2.2.1, by rw [h12 10 (by omega)]; exact hF.2.2.2⟩
  rw [h1]; exact hH.2 i hi
/-- both histories take the layout A, both sides have B now -/
theorem INV_ch {T M : Mm} {A B : Lay} {kept : Nat} {Ah : Nat → Lay} {len : Nat} {S' N' R' L' K' M' M2 : Mm} {P' : Nat → Nat} {Hs' : Nat → Mm} (hB : LB B) (hL : LI L' B) (hC : HC (nk kept) (nA kept Ah A) K' P' Hs') (hH : HM (nk kept) (nA kept Ah A) M') (hM : MI (M2 0) B) (e : ∀ q, q ≠ 1 → q ≠ 12 → M' q = M2 q) (e12 : ∀ j, j ≠ 0 → M' 12 j = M2 12 j) (e4 : M2 4 = M 4) (g12 : M2 12 = M 12) (hT : TI len T M) (hF : FI M) : INV L' K' P' Hs' S' N' T R' M' := by
  refine ⟨B, nk kept, nA kept Ah A, len, hB, hL, by rw [e 0 (by omega) (by omega)]; exact hM, hC, hH, ⟨hT.1, hT.2.1, by rw [e12 1 (by omega), g12]; exact hT.2.2.1, by rw [e 4 (by omega) (by omega), e4]; exact hT.2.2.2⟩, by rw [e12 7 (by omega), g12]; exact hF.1, by rw [e12 8 (by omega), g12]; exact hF.2.1, by rw [e12 9 (by omega), g12]; exact hF.2.2.1, by rw [e12 10 (by omega), g12]; exact hF.2.2.2⟩
/-- the reference adds a place -/
theorem pm_adds {M : Mm} {A : Lay} {u w : Nat} (h : MI (M 0) A) (hA : A 0 0 < 6) (h1 : 1 ≤ A 0 0) : ∃ M', F_X5_adds M (nI u) (nI w) = some (nI (A 0 0), M') ∧ (∀ q, q ≠ 0 → M' q = M q) ∧ M' 0 0 = nI (A 0 0 + 1) ∧ M' 0 (2 + 2 * A 0 0) = nI u ∧ M' 0 (2 + 2 * A 0 0 + 1) = nI w ∧ ∀ j, j ≠ 0 → j ≠ 2 + 2 * A 0 0 → j ≠ 2 + 2 * A 0 0 + 1 → M' 0 j = M 0 j := by
  have e0 : (0 : Int32) = nI 0 := rfl
  have e1 : (1 : Int32) = nI 1 := rfl
  have e2 : (2 : Int32) = nI 2 := rfl
  have e6 : (6 : Int32) = nI 6 := rfl
  unfold F_X5_adds
  rw [e0, e1, e2, e6, ck_nI (by omega) (by omega), nI_clamp (by omega), h.1, if_neg (by rw [nI_eq (by omega) (by omega)]; omega), ck_nI (by omega) (by omega), pk_mul, nI_add, ck_nI (by omega) (by omega), sv_eq, ck_nI (by omega) (by omega), nI_clamp (by omega), va_up_self, pk_un (by omega), h.1, pk_mul, nI_add, nI_add, ck_nI (by omega) (by omega), sv_eq, ck_nI (by omega) (by omega), ck_nI (by omega) (by omega), sv_eq, ck_nI (by omega) (by omega)]
  rw [nI_clamp (by omega), va_up_self, va_up_self, pk_us, pk_un (by omega), show upd (M 0) (2 + 2 * A 0 0) (nI u) 0 = nI (A 0 0) from by rw [pk_un (by omega)]; exact h.1, nI_add, pk_sub (by omega), Nat.add_sub_cancel]
  refine ⟨_, rfl, fun q hq => ?_, ?_, ?_, ?_, fun j hj hj2 hj3 => ?_⟩
  · rw [va_up_ne _ _ hq, va_up_ne _ _ hq, va_up_ne _ _ hq]
  · rw [va_up_self]; exact pk_us
  · rw [va_up_self, pk_un (by omega), pk_un (by omega)]; exact pk_us
  · rw [va_up_self, pk_un (by omega)]; exact pk_us
  · rw [va_up_self, pk_un hj, pk_un hj3, pk_un hj2]
theorem pc_addPlace {L : Mm} {A : Lay} {u w : Nat} (h : LI L A) (hA : A 0 0 < 6) (h1 : 1 ≤ A 0 0) : ∃ L', F_X1_addPlace L (nI u) (nI w) = some (nI (A 0 0), L') ∧ L' 3 0 = nI (A 0 0 + 1) ∧ L' 3 1 = L 3 1 ∧ L' 0 (A 0 0) = nI u ∧ L' 1 (A 0 0) = nI w ∧ (∀ j, j ≠ A 0 0 → L' 0 j = L 0 j ∧ L' 1 j = L 1 j) ∧ L' 2 = L 2 := by
  have e1 : (1 : Int32) = nI 1 := rfl
  unfold F_X1_addPlace
  rw [h.1, ck_nI (by omega) (by omega), sv_eq, va_up_ne _ _ (show (3 : Nat) ≠ 0 by decide), h.1, ck_nI (by omega) (by omega), sv_eq, sv_eq, nI_clamp (by omega)]
  rw [va_up_self, pk_us, va_up_ne _ _ (show (3 : Nat) ≠ 1 by decide), va_up_ne _ _ (show (3 : Nat) ≠ 0 by decide), va_up_ne _ _ (show (1 : Nat) ≠ 0 by decide), h.1, e1, nI_add, pk_sub (by omega), Nat.add_sub_cancel]
  refine ⟨_, rfl, ?_, ?_, ?_, ?_, fun j hj => ⟨?_, ?_⟩, ?_⟩
  · rw [va_up_self]; exact pk_us
  · rw [va_up_self, pk_un (by decide)]
  · rw [va_up_ne _ _ (by decide), va_up_ne _ _ (by decide), va_up_self]; exact pk_us
  · rw [va_up_ne _ _ (by decide), va_up_self]; exact pk_us
  · rw [va_up_ne _ _ (by decide), va_up_ne _ _ (by decide), va_up_self, pk_un hj]
  · rw [va_up_ne _ _ (by decide), va_up_self, pk_un hj]
  · rw [va_up_ne _ _ (by decide), va_up_ne _ _ (by decide), va_up_ne _ _ (by decide)]
/-- the layout with a place more -/
def lyP (A : Lay) (u w : Nat) : Lay := fun i j => if i = 0 then (if j = 0 then A 0 0 + 1 else A 0 j) else if i = 2 then (if j = A 0 0 then u else A 2 j) else if i = 3 then (if j = A 0 0 then w else A 3 j) else A i j
theorem st_place {L K : Mm} {P : Nat → Nat} {Hs : Nat → Mm} {S N T R M : Mm} (h : INV L K P Hs S N T R M) (x1 : Int32) (x2 : Int32) : ∃ (r : Int32) (L' : Mm) (K' : Mm) (P' : Nat → Nat) (Hs' : Nat → Mm) (M' : Mm), F_X4_place L K P Hs S N T R x1 x2 = some (r, L', K', P', Hs') ∧ F_X5_place M x1 x2 = some (r, M') ∧ INV L' K' P' Hs' S N T R M' := by
  have hI := h
  obtain ⟨A, kept, Ah, len, hB, hL, hM, hC, hH, hT, hF⟩ := h
  have hB1 := hB.1
  have hB2 := hB.2.1
  unfold F_X4_place F_X5_place
  rw [pc_badOfPlace, b1_some, pr_in, b1_some]
  by_cases c1 : (0 : Int32) ≤ x1 ∧ x1 ≤ 20
  · rw [if_pos c1, if_pos c1, if_neg (show ¬ (1 : Int32) = 0 by decide), pr_in, b1_some]
    by_cases c2 : (0 : Int32) ≤ x2 ∧ x2 ≤ 40
    · rw [if_pos c2, if_pos c2, if_neg (show ¬ (1 : Int32) = 0 by decide), if_pos rfl]
      obtain ⟨u, -, u2, rfl⟩ := rg (a := 0) (b := 20) (by omega) (by omega) c1
      obtain ⟨w, -, w2, rfl⟩ := rg (a := 0) (b := 40) (by omega) (by omega) c2
      obtain ⟨g, k1, k2⟩ := pr_keeps M
      rw [k1, b1_some]
      have hM2 : MI (va_up M 2 g 0) A := by rw [va_up_ne _ _ (by decide)]; exact hM
      unfold F_X1_placesAreFull
      rw [hL.1]
      by_cases c3 : A 0 0 < 6
      · rw [if_pos (show nI (A 0 0) < (6 : Int32) from nI_lt (b := 6) c3 (by omega)), b1_some, if_pos rfl]
        obtain ⟨K', P', Hs', k3, hC'⟩ := pc_keep hC hB hL
        obtain ⟨L', a1, a2, a3, a4, a5, a6, a7⟩ := pc_addPlace (u := u) (w := w) hL c3 hB1
        obtain ⟨M2, m1, m2, m3, m4, m5, m6⟩ := pm_adds (u := u) (w := w) hM2 c3 hB1
        have hx : ¬ nI (A 0 0) ≤ (-1000001 : Int32) := by
          intro z
          have := Int32.le_trans (nI_pos' (n := A 0 0) (by omega)) z
          exact absurd this (by decide)
        have hG : MI (M2 2) A := by
          rw [m2 2 (by decide), va_up_self]
          exact MI_of hB hM k2
        have hH2 : HM kept Ah M2 := by
          refine ⟨by rw [m2 12 (by decide), va_up_ne _ _ (by decide)]; exact hH.1, fun i hi => ?_⟩
          rw [m2 1 (by decide), va_up_ne _ _ (by decide)]
          exact hH.2 i hi
        obtain ⟨M', n1, n2, n3, n4⟩ := pr_acted hC.1 hH2 hB hG hx
        rw [k3, b3_some, a1, b2_some, m1, b2_some, n1, b2_some]
        refine ⟨_, _, _, _, _, _, rfl, rfl, ?_⟩
        have e0 : lyP A u w 0 0 = A 0 0 + 1 := rfl
        have e1 : lyP A u w 1 0 = A 1 0 := rfl
        have e2 : ∀ j, lyP A u w 2 j = if j = A 0 0 then u else A 2 j := fun j => rfl
        have e3 : ∀ j, lyP A u w 3 j = if j = A 0 0 then w else A 3 j := fun j => rfl
        have e4 : ∀ i j, lyP A u w (4 + i) j = A (4 + i) j := by
          intro i j
          unfold lyP
          rw [if_neg (by omega), if_neg (by omega), if_neg (by omega)]
        refine INV_ch (B := lyP A u w) (A := A) (M2 := M2) (M := M) ?_ ?_ hC' n2 ?_ n3 n4 (by rw [m2 4 (by decide), va_up_ne _ _ (by decide)]) (by rw [m2 12 (by decide), va_up_ne _ _ (by decide)]) hT hF
        · refine ⟨by omega, by omega, hB.2.2.1, fun p hp => ?_, fun k hk => ?_⟩
          · rw [e2, e3]
            by_cases hpa : p = A 0 0
            · rw [if_pos hpa, if_pos hpa]; exact ⟨u2, w2⟩
            · rw [if_neg hpa, if_neg hpa]; exact hB.2.2.2.1 p (by omega)
          · obtain ⟨q1, q2, q3⟩ := hB.2.2.2.2 k hk
            exact ⟨by rw [e0]; exact Nat.lt_succ_of_lt q1, by rw [e0]; exact Nat.lt_succ_of_lt q2, q3⟩
        · refine ⟨a2, by rw [a3]; exact hL.2.1, fun p hp => ?_, fun k hk j hj => ?_⟩
          · rw [e2, e3]
            by_cases hpa : p = A 0 0
            · rw [if_pos hpa, if_pos hpa, hpa]; exact ⟨a4, a5⟩
            · rw [if_neg hpa, if_neg hpa, (a6 p hpa).1, (a6 p hpa).2]; exact hL.2.2.1 p (by omega)
          · rw [a7, e4]; exact hL.2.2.2 k hk j hj
        · refine ⟨m3, by rw [m6 1 (by omega) (by omega) (by omega)]; exact hM2.2.1, fun p hp => ?_, fun k hk j hj => ?_⟩
          · rw [e2, e3]
            by_cases hpa : p = A 0 0
            · rw [if_pos hpa, if_pos hpa, hpa]; exact ⟨m4, m5⟩
            · have hp2 : p < A 0 0 := by rw [e0] at hp; omega
              rw [if_neg hpa, if_neg hpa, m6 _ (by omega) (by omega) (by omega), m6 _ (by omega) (by omega) (by omega)]
              exact hM2.2.2.1 p hp2
          · rw [m6 _ (by omega) (by omega) (by omega), e4]; exact hM2.2.2.2 k hk j hj
      · have h6 : A 0 0 = 6 := by omega
        rw [if_neg (show ¬ nI (A 0 0) < (6 : Int32) from by rw [h6]; decide), b1_some, if_neg (show ¬ (1 : Int32) = 0 by decide)]
        have m1 : F_X5_adds (va_up M 2 g) (nI u) (nI w) = some ((-1000003 : Int32), va_up M 2 g) := by
          show ck (nI 0) 74 (if (va_up M 2 g 0 (nI 0).toNatClampNeg) = (6 : Int32) then some ((-1000003 : Int32), va_up M 2 g) else _) = _
          rw [ck_nI (by omega) (by omega), if_pos (by rw [nI_clamp (by omega), hM2.1, h6]; rfl)]
        have n1 : F_X5_acted (va_up M 2 g) (-1000003 : Int32) = some ((-1000003 : Int32), va_up M 2 g) := by
          unfold F_X5_acted
          rw [if_pos (by decide)]
        rw [m1, b2_some, n1, b2_some]
        refine ⟨_, _, _, _, _, _, rfl, rfl, ?_⟩
        exact INV_M hI (by rw [va_up_ne _ _ (by decide)]) (by rw [va_up_ne _ _ (by decide)]) (by rw [va_up_ne _ _ (by decide)]) (fun j _ => by rw [va_up_ne _ _ (by decide)])
    · rw [if_neg c2, if_neg c2, if_neg (by decide), if_pos rfl]
      exact ⟨_, _, _, _, _, _, rfl, rfl, hI⟩
  · rw [if_neg c1, if_neg c1, if_neg (by decide), if_pos rfl]
    exact ⟨_, _, _, _, _, _, rfl, rfl, hI⟩
