/-! PURE PART: the kinds of settings: their numbers, what they do. -/
/-- what follows a form that is right -/
def HE (R : Mm) (A : Lay) (κ w : Nat) (T M : Mm) : Prop := (∃ b, b < w ∧ F_X2_badNumber T R (nI κ) = some (nI b) ∧ (∀ q, q < b → F_X5_isRight M (nI κ) (nI q) = some 1) ∧ F_X5_isRight M (nI κ) (nI b) = some 0) ∨ (F_X2_badNumber T R (nI κ) = some (-1) ∧ (∀ q, q < w → F_X5_isRight M (nI κ) (nI q) = some 1) ∧ ((F_X2_isBeyondLimit T R (nI κ) = some 1 ∧ ∀ M6 : Mm, M6 0 = M 0 → M6 5 = M 5 → F_X5_does M6 (nI κ) = some ((-1000003 : Int32), M6)) ∨ (F_X2_isBeyondLimit T R (nI κ) = some 0 ∧ ∃ R', F_X2_settle T R (nI κ) = some R' ∧ ∃ A', LB A' ∧ LI R' A' ∧ ∀ M6 : Mm, M6 0 = M 0 → M6 5 = M 5 → ∃ u M7, F_X5_does M6 (nI κ) = some (u, M7) ∧ u ≠ (-1000003 : Int32) ∧ (∀ q, q ≠ 0 → M7 q = M6 q) ∧ MI (M7 0) A')))
theorem nI_n3 {n : Nat} (h : n < 2 ^ 31) : nI n ≠ (-1000003 : Int32) := by
  intro z
  have h1 := nI_pos' h
  rw [z] at h1
  exact absurd h1 (by decide)
/-- the layout with a place more, on both sides -/
theorem lyP_e (A : Lay) (u w : Nat) : lyP A u w 0 0 = A 0 0 + 1 ∧ lyP A u w 1 0 = A 1 0 ∧ (∀ j, lyP A u w 2 j = if j = A 0 0 then u else A 2 j) ∧ (∀ j, lyP A u w 3 j = if j = A 0 0 then w else A 3 j) ∧ ∀ i j, lyP A u w (4 + i) j = A (4 + i) j := by
  refine ⟨rfl, rfl, fun j => rfl, fun j => rfl, fun i j => ?_⟩
  unfold lyP
  rw [if_neg (by omega), if_neg (by omega), if_neg (by omega)]
theorem LB_P {A : Lay} {u w : Nat} (hB : LB A) (hA : A 0 0 < 6) (hu : u ≤ 20) (hw : w ≤ 40) : LB (lyP A u w) := by
  obtain ⟨e0, e1, e2, e3, e4⟩ := lyP_e A u w
  refine ⟨by omega, by omega, hB.2.2.1, fun p hp => ?_, fun k hk => ?_⟩
  · rw [e2, e3]
    by_cases hpa : p = A 0 0
    · rw [if_pos hpa, if_pos hpa]; exact ⟨hu, hw⟩
    · rw [if_neg hpa, if_neg hpa]; exact hB.2.2.2.1 p (by omega)
  · obtain ⟨q1, q2, q3⟩ := hB.2.2.2.2 k hk
    exact ⟨by rw [e0]; exact Nat.lt_succ_of_lt q1, by rw [e0]; exact Nat.lt_succ_of_lt q2, q3⟩
theorem LI_P {L L' : Mm} {A : Lay} {u w : Nat} (hL : LI L A) (a2 : L' 3 0 = nI (A 0 0 + 1)) (a3 : L' 3 1 = L 3 1) (a4 : L' 0 (A 0 0) = nI u) (a5 : L' 1 (A 0 0) = nI w) (a6 : ∀ j, j ≠ A 0 0 → L' 0 j = L 0 j ∧ L' 1 j = L 1 j) (a7 : L' 2 = L 2) : LI L' (lyP A u w) := by
  obtain ⟨e0, e1, e2, e3, e4⟩ := lyP_e A u w
  refine ⟨a2, by rw [a3]; exact hL.2.1, fun p hp => ?_, fun k hk j hj => ?_⟩
  · rw [e2, e3]
    by_cases hpa : p = A 0 0
    · rw [if_pos hpa, if_pos hpa, hpa]; exact ⟨a4, a5⟩
    · rw [if_neg hpa, if_neg hpa, (a6 p hpa).1, (a6 p hpa).2]; exact hL.2.2.1 p (by omega)
  · rw [a7, e4]; exact hL.2.2.2 k hk j hj
theorem MI_P {s s' : Nat → Int32} {A : Lay} {u w : Nat} (hB : LB A) (hM : MI s A) (hA : A 0 0 < 6) (m3 : s' 0 = nI (A 0 0 + 1)) (m4 : s' (2 + 2 * A 0 0) = nI u) (m5 : s' (2 + 2 * A 0 0 + 1) = nI w) (m6 : ∀ j, j ≠ 0 → j ≠ 2 + 2 * A 0 0 → j ≠ 2 + 2 * A 0 0 + 1 → s' j = s j) : MI s' (lyP A u w) := by
  have hB1 := hB.1
  obtain ⟨e0, e1, e2, e3, e4⟩ := lyP_e A u w
  refine ⟨m3, by rw [m6 1 (by omega) (by omega) (by omega)]; exact hM.2.1, fun p hp => ?_, fun k hk j hj => ?_⟩
  · rw [e2, e3]
    by_cases hpa : p = A 0 0
    · rw [if_pos hpa, if_pos hpa, hpa]; exact ⟨m4, m5⟩
    · have hp2 : p < A 0 0 := by rw [e0] at hp; omega
      rw [if_neg hpa, if_neg hpa, m6 _ (by omega) (by omega) (by omega), m6 _ (by omega) (by omega) (by omega)]
      exact hM.2.2.1 p hp2
  · rw [m6 _ (by omega) (by omega) (by omega), e4]; exact hM.2.2.2 k hk j hj
theorem LB_units {A : Lay} {p v : Nat} (hB : LB A) (hv : v ≤ 20) : LB (lyS A 2 p v) := by
  refine ⟨hB.1, hB.2.1, hB.2.2.1, fun p' hp' => ?_, fun k hk => hB.2.2.2.2 k hk⟩
  have hp' : p' < A 0 0 := hp'
  by_cases e : p' = p
  · rw [e, lyS_s, lyS_n A v (Or.inl (by decide))]; exact ⟨hv, (hB.2.2.2.1 p (e ▸ hp')).2⟩
  · rw [lyS_n A v (Or.inr e), lyS_n A v (Or.inr e)]; exact hB.2.2.2.1 p' hp'
theorem MI_units {s : Nat → Int32} {A : Lay} {p v : Nat} (hB : LB A) (hM : MI s A) (hp : p < A 0 0) : MI (upd s (2 + 2 * p) (nI v)) (lyS A 2 p v) := by
  have hB2 := hB.2.1
  refine ⟨by rw [pk_un (by omega)]; exact hM.1, by rw [pk_un (by omega)]; exact hM.2.1, fun p' hp' => ?_, fun k hk j hj => ?_⟩
  · have hp' : p' < A 0 0 := hp'
    by_cases e : p' = p
    · rw [e, pk_us, pk_un (by omega), lyS_s, lyS_n A v (Or.inl (by decide))]; exact ⟨rfl, (hM.2.2.1 p hp).2⟩
    · rw [pk_un (by omega), pk_un (by omega), lyS_n A v (Or.inr e), lyS_n A v (Or.inr e)]; exact hM.2.2.1 p' hp'
  · rw [pk_un (by omega), lyS_n A v (Or.inl (by omega))]; exact hM.2.2.2 k hk j hj
/-- the reference's opens -/
theorem pm_opens (M : Mm) {k v w : Nat} (hk : k < 10) (hv : v ≤ 15) (hw : w ≤ 15) : F_X5_opens M (nI k) (nI v) (nI w) = some (nI (if v ≤ w then w - v + 1 else 0), va_up M 0 (upd (upd (M 0) (14 + 6 * k + 4) (nI v)) (14 + 6 * k + 5) (nI w))) := by
  unfold F_X5_opens
  rw [show (6 : Int32) = nI 6 from rfl, show (14 : Int32) = nI 14 from rfl, show (4 : Int32) = nI 4 from rfl, show (5 : Int32) = nI 5 from rfl, pk_mul, nI_add, nI_add, nI_add, ck_nI (by omega) (by omega), sv_eq, ck_nI (by omega) (by omega), sv_eq, nI_clamp (by omega), nI_clamp (by omega), va_up_self, bx_uu]
  by_cases c : v ≤ w
  · rw [if_pos (nI_le c (by omega)), if_pos c, pk_sub c, ← nI_succ]
  · rw [if_neg (nI_ge (by omega) (by omega)), if_neg c]
    rfl
section KINDS
variable {T R M : Mm} {A : Lay}
/-- h -/
theorem he_h (hB : LB A) (hL : LI R A) (hM : MI (M 0) A) (hn : ∀ q, q < 2 → ∃ v, v ≤ 99 ∧ T 1 q = nI v ∧ M 5 q = nI v) : HE R A 104 2 T M := by
  obtain ⟨a, ha9, ta, ma⟩ := hn 0 (by omega)
  obtain ⟨b, hb9, tb, mb⟩ := hn 1 (by omega)
  have eb : F_X2_badNumber T R (nI 104) = some (if (0 : Int32) ≤ nI a ∧ nI a ≤ 20 then (if (0 : Int32) ≤ nI b ∧ nI b ≤ 40 then -1 else 1) else 0) := by
    unfold F_X2_badNumber
    rw [if_pos (show nI 104 = (104 : Int32) from rfl)]
    show ck (nI 0) 4 (ck (nI 1) 4 (b1 (F_X1_badOfPlace R (T 1 (nI 0).toNatClampNeg) (T 1 (nI 1).toNatClampNeg)) fun u4 => some u4)) = _
    rw [ck_nI (by omega) (by omega), ck_nI (by omega) (by omega), nI_clamp (by omega), nI_clamp (by omega), ta, tb, pc_badOfPlace, b1_some]
  have r0 : F_X5_isRight M (nI 104) (nI 0) = some (if (0 : Int32) ≤ nI a ∧ nI a ≤ 20 then 1 else 0) := by
    unfold F_X5_isRight F_X5_isRight_57
    rw [ck_nI (by omega) (by omega), if_pos (show nI 104 = (104 : Int32) from rfl), if_pos (show nI 0 = (0 : Int32) from rfl), nI_clamp (by omega), ma, pr_in, b1_some]
    by_cases c : (0 : Int32) ≤ nI a ∧ nI a ≤ 20
    · rw [if_pos c, cz_1]
    · rw [if_neg c, cz_0]
  have r1 : F_X5_isRight M (nI 104) (nI 1) = some (if (0 : Int32) ≤ nI b ∧ nI b ≤ 40 then 1 else 0) := by
    unfold F_X5_isRight F_X5_isRight_57
    rw [ck_nI (by omega) (by omega), if_pos (show nI 104 = (104 : Int32) from rfl), if_neg (show ¬ nI 1 = (0 : Int32) by decide), nI_clamp (by omega), mb, pr_in, b1_some]
    by_cases c : (0 : Int32) ≤ nI b ∧ nI b ≤ 40
    · rw [if_pos c, cz_1]
    · rw [if_neg c, cz_0]
  unfold HE
  rw [eb]
  by_cases c0 : (0 : Int32) ≤ nI a ∧ nI a ≤ 20
  · rw [if_pos c0] at r0 ⊢
    by_cases c1 : (0 : Int32) ≤ nI b ∧ nI b ≤ 40
    · rw [if_pos c1] at r1 ⊢
      have ha : a ≤ 20 := (nI_leI (b := 20) (by omega) (by omega)).mp c0.2
      have hb : b ≤ 40 := (nI_leI (b := 40) (by omega) (by omega)).mp c1.2
      right
      refine ⟨rfl, fun q hq => ?_, ?_⟩
      · rcases (show q = 0 ∨ q = 1 by omega) with rfl | rfl
        · exact r0
        · exact r1
      · have hB1 := hB.1
        have hB2 := hB.2.1
        unfold F_X2_isBeyondLimit F_X2_isBeyondLimit_16 F_X1_placesAreFull
        rw [if_pos (show nI 104 = (104 : Int32) from rfl), if_neg (show ¬ nI 104 = (112 : Int32) by decide), hL.1]
        by_cases c6 : A 0 0 < 6
        · rw [if_pos (show nI (A 0 0) < (6 : Int32) from nI_lt (b := 6) c6 (by omega)), b1_some, if_pos rfl]
          right
          obtain ⟨L', a1, a2, a3, a4, a5, a6, a7⟩ := pc_addPlace (u := a) (w := b) hL c6 hB1
          refine ⟨rfl, L', ?_, lyP A a b, LB_P hB c6 ha hb, LI_P hL a2 a3 a4 a5 a6 a7, fun M6 m0 m5 => ?_⟩
          · unfold F_X2_settle
            rw [if_pos (show nI 104 = (104 : Int32) from rfl)]
            show ck (nI 0) 4 (ck (nI 1) 4 (b2 (F_X1_addPlace R (T 1 (nI 0).toNatClampNeg) (T 1 (nI 1).toNatClampNeg)) fun u4 R5 => some R5)) = _
            rw [ck_nI (by omega) (by omega), ck_nI (by omega) (by omega), nI_clamp (by omega), nI_clamp (by omega), ta, tb, a1, b2_some]
          · obtain ⟨M', m1, m2, m3, m4, m5', m6⟩ := pm_adds (M := M6) (u := a) (w := b) (by rw [m0]; exact hM) c6 hB1
            refine ⟨nI (A 0 0), M', ?_, nI_n3 (by omega), m2, MI_P hB hM c6 m3 m4 m5' (fun j x y z => by rw [m6 j x y z, m0])⟩
            unfold F_X5_does
            rw [if_pos (show nI 104 = (104 : Int32) from rfl)]
            show ck (nI 0) 4 (ck (nI 1) 4 (b2 (F_X5_adds M6 (M6 5 (nI 0).toNatClampNeg) (M6 5 (nI 1).toNatClampNeg)) fun u4 M5 => some (u4, M5))) = _
            rw [ck_nI (by omega) (by omega), ck_nI (by omega) (by omega), nI_clamp (by omega), nI_clamp (by omega), m5, ma, mb, m1, b2_some]
        · have h6 : A 0 0 = 6 := by omega
          rw [if_neg (show ¬ nI (A 0 0) < (6 : Int32) from by rw [h6]; decide), b1_some, if_neg (show ¬ (1 : Int32) = 0 by decide)]
          left
          refine ⟨rfl, fun M6 m0 m5 => ?_⟩
          unfold F_X5_does
          rw [if_pos (show nI 104 = (104 : Int32) from rfl)]
          have m1 : ∀ x y, F_X5_adds M6 x y = some ((-1000003 : Int32), M6) := by
            intro x y
            show ck (nI 0) 74 (if (M6 0 (nI 0).toNatClampNeg) = (6 : Int32) then some ((-1000003 : Int32), M6) else _) = _
            rw [ck_nI (by omega) (by omega), if_pos (by rw [nI_clamp (by omega), m0, hM.1, h6]; rfl)]
          show ck (nI 0) 4 (ck (nI 1) 4 (b2 (F_X5_adds M6 (M6 5 (nI 0).toNatClampNeg) (M6 5 (nI 1).toNatClampNeg)) fun u4 M5 => some (u4, M5))) = _
          rw [ck_nI (by omega) (by omega), ck_nI (by omega) (by omega), m1, b2_some]
    · rw [if_neg c1] at r1 ⊢
      refine Or.inl ⟨1, by omega, rfl, fun q hq => ?_, r1⟩
      rw [show q = 0 by omega]; exact r0
  · rw [if_neg c0] at r0 ⊢
    exact Or.inl ⟨0, by omega, rfl, fun q hq => by omega, r0⟩
/-- u -/
theorem he_u (hB : LB A) (hL : LI R A) (hM : MI (M 0) A) (hn : ∀ q, q < 2 → ∃ v, v ≤ 99 ∧ T 1 q = nI v ∧ M 5 q = nI v) : HE R A 117 2 T M := by
  have hB2 := hB.2.1
  obtain ⟨a, ha9, ta, ma⟩ := hn 0 (by omega)
  obtain ⟨b, hb9, tb, mb⟩ := hn 1 (by omega)
  have n1 : ¬ nI 117 = (104 : Int32) := by decide
  have n2 : ¬ nI 117 = (111 : Int32) := by decide
  have n3 : ¬ nI 117 = (112 : Int32) := by decide
  have eb : F_X2_badNumber T R (nI 117) = some (if (0 : Int32) ≤ nI a ∧ nI a ≤ nI (A 0 0) - 1 then (if (0 : Int32) ≤ nI b ∧ nI b ≤ 20 then -1 else 1) else 0) := by
    unfold F_X2_badNumber
    rw [if_neg n1, if_neg n2, if_neg n3]
    show ck (nI 0) 4 (ck (nI 1) 4 (b1 (F_X1_badOfUnits R (T 1 (nI 0).toNatClampNeg) (T 1 (nI 1).toNatClampNeg)) fun u4 => some u4)) = _
    rw [ck_nI (by omega) (by omega), ck_nI (by omega) (by omega), nI_clamp (by omega), nI_clamp (by omega), ta, tb]
    unfold F_X1_badOfUnits
    rw [pc_isPlace hL.1, b1_some]
    by_cases c0 : (0 : Int32) ≤ nI a ∧ nI a ≤ nI (A 0 0) - 1
    · rw [if_pos c0, if_pos c0, if_neg (by decide), pc_within, b1_some]
      by_cases c1 : (0 : Int32) ≤ nI b ∧ nI b ≤ 20
      · rw [if_pos c1, if_pos c1, if_neg (by decide), b1_some]
      · rw [if_neg c1, if_neg c1, if_pos rfl, b1_some]
    · rw [if_neg c0, if_neg c0, if_pos rfl, b1_some]
  have r0 : F_X5_isRight M (nI 117) (nI 0) = some (if (0 : Int32) ≤ nI a ∧ nI a ≤ nI (A 0 0) - 1 then 1 else 0) := by
    unfold F_X5_isRight
    rw [ck_nI (by omega) (by omega), if_neg n1, if_neg n2, if_neg n3, if_pos (show nI 0 = (0 : Int32) from rfl), nI_clamp (by omega), ma, pm_isPlace hM.1, b1_some]
    by_cases c : (0 : Int32) ≤ nI a ∧ nI a ≤ nI (A 0 0) - 1
    · rw [if_pos c, cz_1]
    · rw [if_neg c, cz_0]
  have r1 : F_X5_isRight M (nI 117) (nI 1) = some (if (0 : Int32) ≤ nI b ∧ nI b ≤ 20 then 1 else 0) := by
    unfold F_X5_isRight
    rw [ck_nI (by omega) (by omega), if_neg n1, if_neg n2, if_neg n3, if_neg (show ¬ nI 1 = (0 : Int32) by decide), nI_clamp (by omega), mb, pr_in, b1_some]
    by_cases c : (0 : Int32) ≤ nI b ∧ nI b ≤ 20
    · rw [if_pos c, cz_1]
    · rw [if_neg c, cz_0]
  unfold HE
  rw [eb]
  by_cases c0 : (0 : Int32) ≤ nI a ∧ nI a ≤ nI (A 0 0) - 1
  · rw [if_pos c0] at r0 ⊢
    by_cases c1 : (0 : Int32) ≤ nI b ∧ nI b ≤ 20
    · rw [if_pos c1] at r1 ⊢
      obtain ⟨a', ha, ea⟩ := rg0 (by omega) c0
      have ea2 : a = a' := (nI_eq (by omega) (by omega)).mp ea
      subst ea2
      have hb : b ≤ 20 := (nI_leI (b := 20) (by omega) (by omega)).mp c1.2
      right
      refine ⟨rfl, fun q hq => ?_, Or.inr ⟨?_, va_up R 0 (upd (R 0) a (nI b)), ?_, lyS A 2 a b, LB_units hB hb, LI_units hL, fun M6 m0 m5 => ?_⟩⟩
      · rcases (show q = 0 ∨ q = 1 by omega) with rfl | rfl
        · exact r0
        · exact r1
      · unfold F_X2_isBeyondLimit F_X2_isBeyondLimit_16
        rw [if_neg n1, if_neg n3]
      · unfold F_X2_settle
        rw [if_neg n1, if_neg n2, if_neg n3]
        show ck (nI 0) 4 (ck (nI 1) 4 (ck (T 1 (nI 0).toNatClampNeg) 6 (sv (va_up R 0 (upd (R 0) (T 1 (nI 0).toNatClampNeg).toNatClampNeg (T 1 (nI 1).toNatClampNeg))) fun R24 => some R24))) = _
        rw [ck_nI (by omega) (by omega), ck_nI (by omega) (by omega), nI_clamp (by omega), nI_clamp (by omega), ta, tb, ck_nI (by omega) (by omega), sv_eq, nI_clamp (by omega)]
      · have hu := (hM.2.2.1 a ha).1
        refine ⟨nI (A 2 a), va_up M6 0 (upd (M6 0) (2 + 2 * a) (nI b)), ?_, nI_n3 (by have := (hB.2.2.2.1 a ha).1; omega), fun q hq => va_up_ne _ _ hq, by rw [va_up_self, m0]; exact MI_units hB hM ha⟩
        unfold F_X5_does
        rw [if_neg n1, if_neg n2, if_neg n3]
        show ck (nI 0) 4 (ck (nI 1) 4 (b2 (F_X5_becomes M6 (nI 2 + (nI 2 * (M6 5 (nI 0).toNatClampNeg))) (M6 5 (nI 1).toNatClampNeg)) fun u4 M5 => some (u4, M5))) = _
        rw [ck_nI (by omega) (by omega), ck_nI (by omega) (by omega), nI_clamp (by omega), nI_clamp (by omega), m5, ma, mb, pk_mul, nI_add, pm_becomes _ (by omega), b2_some, m0, hu]
    · rw [if_neg c1] at r1 ⊢
      refine Or.inl ⟨1, by omega, rfl, fun q hq => ?_, r1⟩
      rw [show q = 0 by omega]; exact r0
  · rw [if_neg c0] at r0 ⊢
    exact Or.inl ⟨0, by omega, rfl, fun q hq => by omega, r0⟩
/-- o -/
theorem he_o (hB : LB A) (hL : LI R A) (hM : MI (M 0) A) (hn : ∀ q, q < 3 → ∃ v, v ≤ 99 ∧ T 1 q = nI v ∧ M 5 q = nI v) : HE R A 111 3 T M := by
  have hB3 := hB.2.2.1
  obtain ⟨a, ha9, ta, ma⟩ := hn 0 (by omega)
  obtain ⟨b, hb9, tb, mb⟩ := hn 1 (by omega)
  obtain ⟨d, hd9, td, md⟩ := hn 2 (by omega)
  have n1 : ¬ nI 111 = (104 : Int32) := by decide
  have p2 : nI 111 = (111 : Int32) := rfl
  have n3 : ¬ nI 111 = (112 : Int32) := by decide
  have eb : F_X2_badNumber T R (nI 111) = some (if (0 : Int32) ≤ nI a ∧ nI a ≤ nI (A 1 0) - 1 then (if (0 : Int32) ≤ nI b ∧ nI b ≤ 15 then (if (0 : Int32) ≤ nI d ∧ nI d ≤ 15 then -1 else 2) else 1) else 0) := by
    unfold F_X2_badNumber
    rw [if_neg n1, if_pos p2]
    show ck (nI 0) 4 (ck (nI 1) 4 (ck (nI 2) 4 (b1 (F_X1_badOfOpening R (T 1 (nI 0).toNatClampNeg) (T 1 (nI 1).toNatClampNeg) (T 1 (nI 2).toNatClampNeg)) fun u4 => some u4))) = _
    rw [ck_nI (by omega) (by omega), ck_nI (by omega) (by omega), ck_nI (by omega) (by omega), nI_clamp (by omega), nI_clamp (by omega), nI_clamp (by omega), ta, tb, td]
    unfold F_X1_badOfOpening
    rw [pc_isPipe hL.2.1, b1_some]
    by_cases c0 : (0 : Int32) ≤ nI a ∧ nI a ≤ nI (A 1 0) - 1
    · rw [if_pos c0, if_pos c0, if_neg (by decide), pc_isTick, b1_some]
      by_cases c1 : (0 : Int32) ≤ nI b ∧ nI b ≤ 15
      · rw [if_pos c1, if_pos c1, if_neg (by decide), pc_isTick, b1_some]
        by_cases c2 : (0 : Int32) ≤ nI d ∧ nI d ≤ 15
        · rw [if_pos c2, if_pos c2, if_neg (by decide), b1_some]
        · rw [if_neg c2, if_neg c2, if_pos rfl, b1_some]
      · rw [if_neg c1, if_neg c1, if_pos rfl, b1_some]
    · rw [if_neg c0, if_neg c0, if_pos rfl, b1_some]
  have r0 : F_X5_isRight M (nI 111) (nI 0) = some (if (0 : Int32) ≤ nI a ∧ nI a ≤ nI (A 1 0) - 1 then 1 else 0) := by
    unfold F_X5_isRight
    rw [ck_nI (by omega) (by omega), if_neg n1, if_pos p2, if_pos (show nI 0 = (0 : Int32) from rfl), nI_clamp (by omega), ma, pm_isPipe hM.2.1, b1_some]
    by_cases c : (0 : Int32) ≤ nI a ∧ nI a ≤ nI (A 1 0) - 1
    · rw [if_pos c, cz_1]
    · rw [if_neg c, cz_0]
  have r1 : F_X5_isRight M (nI 111) (nI 1) = some (if (0 : Int32) ≤ nI b ∧ nI b ≤ 15 then 1 else 0) := by
    unfold F_X5_isRight
    rw [ck_nI (by omega) (by omega), if_neg n1, if_pos p2, if_neg (show ¬ nI 1 = (0 : Int32) by decide), nI_clamp (by omega), mb, pr_in, b1_some]
    by_cases c : (0 : Int32) ≤ nI b ∧ nI b ≤ 15
    · rw [if_pos c, cz_1]
    · rw [if_neg c, cz_0]
  have r2 : F_X5_isRight M (nI 111) (nI 2) = some (if (0 : Int32) ≤ nI d ∧ nI d ≤ 15 then 1 else 0) := by
    unfold F_X5_isRight
    rw [ck_nI (by omega) (by omega), if_neg n1, if_pos p2, if_neg (show ¬ nI 2 = (0 : Int32) by decide), nI_clamp (by omega), md, pr_in, b1_some]
    by_cases c : (0 : Int32) ≤ nI d ∧ nI d ≤ 15
    · rw [if_pos c, cz_1]
    · rw [if_neg c, cz_0]
  unfold HE
  rw [eb]
  by_cases c0 : (0 : Int32) ≤ nI a ∧ nI a ≤ nI (A 1 0) - 1
  · rw [if_pos c0] at r0 ⊢
    by_cases c1 : (0 : Int32) ≤ nI b ∧ nI b ≤ 15
    · rw [if_pos c1] at r1 ⊢
      by_cases c2 : (0 : Int32) ≤ nI d ∧ nI d ≤ 15
      · rw [if_pos c2] at r2 ⊢
        obtain ⟨a', ha, ea⟩ := rg0 (by omega) c0
        have ea2 : a = a' := (nI_eq (by omega) (by omega)).mp ea
        subst ea2
        have hb : b ≤ 15 := (nI_leI (b := 15) (by omega) (by omega)).mp c1.2
        have hd : d ≤ 15 := (nI_leI (b := 15) (by omega) (by omega)).mp c2.2
        right
        refine ⟨rfl, fun q hq => ?_, Or.inr ⟨?_, _, ?_, lyS (lyS A 8 a b) 9 a d, LB_part (LB_part hB (Or.inl rfl) hb) (Or.inr rfl) hd, LI_part (j0 := 5) (LI_part (j0 := 4) hL (by omega)) (by omega), fun M6 m0 m5 => ?_⟩⟩
        · rcases (show q = 0 ∨ q = 1 ∨ q = 2 by omega) with rfl | rfl | rfl
          · exact r0
          · exact r1
          · exact r2
        · unfold F_X2_isBeyondLimit F_X2_isBeyondLimit_16
          rw [if_neg n1, if_neg n3]
        · unfold F_X2_settle F_X1_setOpening
          rw [if_neg n1, if_pos p2]
          show ck (nI 0) 4 (ck (nI 1) 4 (ck (nI 2) 4 (b1 (b1 (F_X1_setPart R (T 1 (nI 0).toNatClampNeg) (nI 4) (T 1 (nI 1).toNatClampNeg)) fun L1 => (b1 (F_X1_setPart L1 (T 1 (nI 0).toNatClampNeg) (nI 5) (T 1 (nI 2).toNatClampNeg)) fun L3 => some L3)) fun R11 => some R11))) = _
          rw [ck_nI (by omega) (by omega), ck_nI (by omega) (by omega), ck_nI (by omega) (by omega), nI_clamp (by omega), nI_clamp (by omega), nI_clamp (by omega), ta, tb, td, pc_setPart R (by omega) (by omega), b1_some, pc_setPart _ (by omega) (by omega), b1_some, b1_some]
        · refine ⟨_, va_up M6 0 (upd (upd (M6 0) (14 + 6 * a + 4) (nI b)) (14 + 6 * a + 5) (nI d)), ?_, nI_n3 (n := if b ≤ d then d - b + 1 else 0) (by split <;> omega), fun q hq => va_up_ne _ _ hq, ?_⟩
          · unfold F_X5_does
            rw [if_neg n1, if_pos p2]
            show ck (nI 0) 4 (ck (nI 1) 4 (ck (nI 2) 4 (b2 (F_X5_opens M6 (M6 5 (nI 0).toNatClampNeg) (M6 5 (nI 1).toNatClampNeg) (M6 5 (nI 2).toNatClampNeg)) fun u4 M5 => some (u4, M5)))) = _
            rw [ck_nI (by omega) (by omega), ck_nI (by omega) (by omega), ck_nI (by omega) (by omega), nI_clamp (by omega), nI_clamp (by omega), nI_clamp (by omega), m5, ma, mb, md, pm_opens M6 (by omega) hb hd, b2_some]
          · rw [va_up_self, m0]
            exact MI_part (j0 := 5) (LB_part hB (Or.inl rfl) hb) (MI_part (j0 := 4) hB hM (by omega)) (by omega)
      · rw [if_neg c2] at r2 ⊢
        refine Or.inl ⟨2, by omega, rfl, fun q hq => ?_, r2⟩
        rcases (show q = 0 ∨ q = 1 by omega) with rfl | rfl
        · exact r0
        · exact r1
    · rw [if_neg c1] at r1 ⊢
      refine Or.inl ⟨1, by omega, rfl, fun q hq => ?_, r1⟩
      rw [show q = 0 by omega]; exact r0
  · rw [if_neg c0] at r0 ⊢
    exact Or.inl ⟨0, by omega, rfl, fun q hq => by omega, r0⟩
/-- p -/
theorem he_p (hB : LB A) (hL : LI R A) (hM : MI (M 0) A) (hn : ∀ q, q < 4 → ∃ v, v ≤ 99 ∧ T 1 q = nI v ∧ M 5 q = nI v) : HE R A 112 4 T M := by
  have hB2 := hB.2.1
  have hB3 := hB.2.2.1
  obtain ⟨a, ha9, ta, ma⟩ := hn 0 (by omega)
  obtain ⟨b, hb9, tb, mb⟩ := hn 1 (by omega)
  obtain ⟨d, hd9, td, md⟩ := hn 2 (by omega)
  obtain ⟨e, he9, te, me⟩ := hn 3 (by omega)
  have n1 : ¬ nI 112 = (104 : Int32) := by decide
  have n2 : ¬ nI 112 = (111 : Int32) := by decide
  have p3 : nI 112 = (112 : Int32) := rfl
  have eb : F_X2_badNumber T R (nI 112) = F_X1_badOfPipe R (nI a) (nI b) (nI d) (nI e) := by
    unfold F_X2_badNumber
    rw [if_neg n1, if_neg n2, if_pos p3]
    show ck (nI 0) 4 (ck (nI 1) 4 (ck (nI 2) 4 (ck (nI 3) 4 (b1 (F_X1_badOfPipe R (T 1 (nI 0).toNatClampNeg) (T 1 (nI 1).toNatClampNeg) (T 1 (nI 2).toNatClampNeg) (T 1 (nI 3).toNatClampNeg)) fun u4 => some u4)))) = _
    rw [ck_nI (by omega) (by omega), ck_nI (by omega) (by omega), ck_nI (by omega) (by omega), ck_nI (by omega) (by omega), nI_clamp (by omega), nI_clamp (by omega), nI_clamp (by omega), nI_clamp (by omega), ta, tb, td, te, pc_badOfPipe hL.1, b1_some]
  rw [pc_badOfPipe hL.1] at eb
  have r0 : F_X5_isRight M (nI 112) (nI 0) = some (if (0 : Int32) ≤ nI a ∧ nI a ≤ nI (A 0 0) - 1 then 1 else 0) := by
    unfold F_X5_isRight
    rw [ck_nI (by omega) (by omega), if_neg n1, if_neg n2, if_pos p3, if_pos (show nI 0 = (0 : Int32) from rfl), nI_clamp (by omega), ma, pm_isPlace hM.1, b1_some]
    by_cases c : (0 : Int32) ≤ nI a ∧ nI a ≤ nI (A 0 0) - 1
    · rw [if_pos c, cz_1]
    · rw [if_neg c, cz_0]
  have r1 : F_X5_isRight M (nI 112) (nI 1) = some (if ((0 : Int32) ≤ nI b ∧ nI b ≤ nI (A 0 0) - 1) ∧ ¬ nI b = nI a then 1 else 0) := by
    unfold F_X5_isRight
    rw [ck_nI (by omega) (by omega), if_neg n1, if_neg n2, if_pos p3, if_neg (show ¬ nI 1 = (0 : Int32) by decide), if_pos (show nI 1 = (1 : Int32) from rfl), nI_clamp (by omega), mb, pm_isPlace hM.1, b1_some]
    show (if (if (0 : Int32) ≤ nI b ∧ nI b ≤ nI (A 0 0) - 1 then (1 : Int32) else 0) = 0 then some ((0 : Int32)) else (ck (nI 0) 4 (if nI b = (M 5 (nI 0).toNatClampNeg) then some ((0 : Int32)) else some ((1 : Int32))))) = _
    rw [ck_nI (by omega) (by omega), nI_clamp (by omega), ma]
    by_cases c : (0 : Int32) ≤ nI b ∧ nI b ≤ nI (A 0 0) - 1
    · rw [if_pos c, if_neg (by decide)]
      by_cases c' : nI b = nI a
      · rw [if_pos c', if_neg (fun z => z.2 c')]
      · rw [if_neg c', if_pos ⟨c, c'⟩]
    · rw [if_neg c, if_pos rfl, if_neg (fun z => c z.1)]
  have r2 : F_X5_isRight M (nI 112) (nI 2) = some (if (1 : Int32) ≤ nI d ∧ nI d ≤ 4 then 1 else 0) := by
    unfold F_X5_isRight F_X5_isRight_117
    rw [ck_nI (by omega) (by omega), if_neg n1, if_neg n2, if_pos p3, if_neg (show ¬ nI 2 = (0 : Int32) by decide), if_neg (show ¬ nI 2 = (1 : Int32) by decide), if_pos (show nI 2 = (2 : Int32) from rfl), nI_clamp (by omega), md, pr_in, b1_some]
    by_cases c : (1 : Int32) ≤ nI d ∧ nI d ≤ 4
    · rw [if_pos c, cz_1]
    · rw [if_neg c, cz_0]
  have r3 : F_X5_isRight M (nI 112) (nI 3) = some (if (1 : Int32) ≤ nI e ∧ nI e ≤ 9 then 1 else 0) := by
    unfold F_X5_isRight F_X5_isRight_117
    rw [ck_nI (by omega) (by omega), if_neg n1, if_neg n2, if_pos p3, if_neg (show ¬ nI 3 = (0 : Int32) by decide), if_neg (show ¬ nI 3 = (1 : Int32) by decide), if_neg (show ¬ nI 3 = (2 : Int32) by decide), nI_clamp (by omega), me, pr_in, b1_some]
    by_cases c : (1 : Int32) ≤ nI e ∧ nI e ≤ 9
    · rw [if_pos c, cz_1]
    · rw [if_neg c, cz_0]
  unfold HE
  rw [eb]
  by_cases c0 : (0 : Int32) ≤ nI a ∧ nI a ≤ nI (A 0 0) - 1
  · rw [if_pos c0] at r0 ⊢
    by_cases c1 : ((0 : Int32) ≤ nI b ∧ nI b ≤ nI (A 0 0) - 1) ∧ ¬ nI b = nI a
    · rw [if_pos c1] at r1 ⊢
      by_cases c2 : (1 : Int32) ≤ nI d ∧ nI d ≤ 4
      · rw [if_pos c2] at r2 ⊢
        by_cases c3 : (1 : Int32) ≤ nI e ∧ nI e ≤ 9
        · rw [if_pos c3] at r3 ⊢
          obtain ⟨a', ha, ea⟩ := rg0 (by omega) c0
          have ea2 : a = a' := (nI_eq (by omega) (by omega)).mp ea
          subst ea2
          obtain ⟨b', hb, eb'⟩ := rg0 (by omega) c1.1
          have eb2 : b = b' := (nI_eq (by omega) (by omega)).mp eb'
          subst eb2
          have hab : a ≠ b := fun z => c1.2 (by rw [z])
          have hd1 : 1 ≤ d := (nI_leI (a := 1) (by omega) (by omega)).mp c2.1
          have hd4 : d ≤ 4 := (nI_leI (b := 4) (by omega) (by omega)).mp c2.2
          have he1 : 1 ≤ e := (nI_leI (a := 1) (by omega) (by omega)).mp c3.1
          have he9 : e ≤ 9 := (nI_leI (b := 9) (by omega) (by omega)).mp c3.2
          right
          refine ⟨rfl, fun q hq => ?_, ?_⟩
          · rcases (show q = 0 ∨ q = 1 ∨ q = 2 ∨ q = 3 by omega) with rfl | rfl | rfl | rfl
            · exact r0
            · exact r1
            · exact r2
            · exact r3
          · unfold F_X2_isBeyondLimit F_X2_isBeyondLimit_16 F_X1_pipesAreFull
            rw [if_neg n1, if_pos p3, hL.2.1]
            by_cases c6 : A 1 0 < 10
            · rw [if_pos (show nI (A 1 0) < (10 : Int32) from nI_lt (b := 10) c6 (by omega)), b1_some, if_pos rfl]
              right
              obtain ⟨L', a1, a2, a3, a4, a5, a6⟩ := pc_addPipe hL c6 (nI a) (nI b) (nI d) (nI e)
              refine ⟨rfl, L', ?_, lyL A a b d e, LB_pipe hB c6 ha hb hab hd1 hd4 he1 he9, LI_pipe hL a2 a3 a4 a5 a6, fun M6 m0 m5 => ?_⟩
              · unfold F_X2_settle
                rw [if_neg n1, if_neg n2, if_pos p3]
                show ck (nI 0) 4 (ck (nI 1) 4 (ck (nI 2) 4 (ck (nI 3) 4 (b2 (F_X1_addPipe R (T 1 (nI 0).toNatClampNeg) (T 1 (nI 1).toNatClampNeg) (T 1 (nI 2).toNatClampNeg) (T 1 (nI 3).toNatClampNeg)) fun u4 R5 => some R5)))) = _
                rw [ck_nI (by omega) (by omega), ck_nI (by omega) (by omega), ck_nI (by omega) (by omega), ck_nI (by omega) (by omega), nI_clamp (by omega), nI_clamp (by omega), nI_clamp (by omega), nI_clamp (by omega), ta, tb, td, te, a1, b2_some]
              · refine ⟨nI (A 1 0), va_up M6 0 (upd (u6 (M6 0) (14 + 6 * A 1 0) (nI a) (nI b) (nI d) (nI e) 0 15) 1 (nI (A 1 0 + 1))), ?_, nI_n3 (by omega), fun q hq => va_up_ne _ _ hq, ?_⟩
                · unfold F_X5_does
                  rw [if_neg n1, if_neg n2, if_pos p3]
                  show ck (nI 0) 4 (ck (nI 1) 4 (ck (nI 2) 4 (ck (nI 3) 4 (b2 (F_X5_lays M6 (M6 5 (nI 0).toNatClampNeg) (M6 5 (nI 1).toNatClampNeg) (M6 5 (nI 2).toNatClampNeg) (M6 5 (nI 3).toNatClampNeg)) fun u4 M5 => some (u4, M5))))) = _
                  rw [ck_nI (by omega) (by omega), ck_nI (by omega) (by omega), ck_nI (by omega) (by omega), ck_nI (by omega) (by omega), nI_clamp (by omega), nI_clamp (by omega), nI_clamp (by omega), nI_clamp (by omega), m5, ma, mb, md, me, pm_lays (by rw [m0]; exact hM) c6, b2_some]
                · rw [va_up_self, m0]
                  exact MI_pipe hB hM c6
            · have h10 : A 1 0 = 10 := by omega
              rw [if_neg (show ¬ nI (A 1 0) < (10 : Int32) from by rw [h10]; decide), b1_some, if_neg (show ¬ (1 : Int32) = 0 by decide)]
              left
              refine ⟨rfl, fun M6 m0 m5 => ?_⟩
              unfold F_X5_does
              rw [if_neg n1, if_neg n2, if_pos p3]
              show ck (nI 0) 4 (ck (nI 1) 4 (ck (nI 2) 4 (ck (nI 3) 4 (b2 (F_X5_lays M6 (M6 5 (nI 0).toNatClampNeg) (M6 5 (nI 1).toNatClampNeg) (M6 5 (nI 2).toNatClampNeg) (M6 5 (nI 3).toNatClampNeg)) fun u4 M5 => some (u4, M5))))) = _
              rw [ck_nI (by omega) (by omega), ck_nI (by omega) (by omega), ck_nI (by omega) (by omega), ck_nI (by omega) (by omega), pm_full (by rw [m0]; exact hM) h10, b2_some]
        · rw [if_neg c3] at r3 ⊢
          refine Or.inl ⟨3, by omega, rfl, fun q hq => ?_, r3⟩
          rcases (show q = 0 ∨ q = 1 ∨ q = 2 by omega) with rfl | rfl | rfl
          · exact r0
          · exact r1
          · exact r2
      · rw [if_neg c2] at r2 ⊢
        refine Or.inl ⟨2, by omega, rfl, fun q hq => ?_, r2⟩
        rcases (show q = 0 ∨ q = 1 by omega) with rfl | rfl
        · exact r0
        · exact r1
    · rw [if_neg c1] at r1 ⊢
      refine Or.inl ⟨1, by omega, rfl, fun q hq => ?_, r1⟩
      rw [show q = 0 by omega]; exact r0
  · rw [if_neg c0] at r0 ⊢
    exact Or.inl ⟨0, by omega, rfl, fun q hq => by omega, r0⟩
end KINDS
