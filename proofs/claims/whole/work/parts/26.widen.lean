/-! PURE PART: widen. -/
theorem pc_setPart (L : Mm) {k j : Nat} (hk : k < 10) (hj : j < 6) (v : Int32) : F_X1_setPart L (nI k) (nI j) v = some (va_up L 2 (upd (L 2) (k * 6 + j) v)) := by
  unfold F_X1_setPart
  rw [show (6 : Int32) = nI 6 from rfl, pk_mul, nI_add, ck_nI (by omega) (by omega), sv_eq, nI_clamp (by omega)]
theorem pc_partOf (L : Mm) {k j : Nat} (hk : k < 10) (hj : j < 6) : F_X1_partOf L (nI k) (nI j) = some (L 2 (k * 6 + j)) := by
  unfold F_X1_partOf
  rw [show (6 : Int32) = nI 6 from rfl, pk_mul, nI_add, ck_nI (by omega) (by omega), nI_clamp (by omega)]
theorem pm_pi (M : Mm) {k j : Nat} (hk : k < 10) (hj : j < 6) : F_X5_pi M (nI k) (nI j) = some (M 0 (14 + 6 * k + j)) := by
  unfold F_X5_pi
  rw [show (6 : Int32) = nI 6 from rfl, show (14 : Int32) = nI 14 from rfl, pk_mul, nI_add, nI_add, ck_nI (by omega) (by omega), nI_clamp (by omega)]
/-- one part of a pipe is set: the class's image -/
theorem LI_part {L : Mm} {A : Lay} {k0 j0 v : Nat} (hL : LI L A) (hj0 : j0 < 6) : LI (va_up L 2 (upd (L 2) (k0 * 6 + j0) (nI v))) (lyS A (4 + j0) k0 v) := by
  refine ⟨by rw [va_up_ne _ _ (by decide), lyS_n A v (Or.inl (by omega))]; exact hL.1, by rw [va_up_ne _ _ (by decide), lyS_n A v (Or.inl (by omega))]; exact hL.2.1, fun p hp => ?_, fun k hk j hj => ?_⟩
  · rw [lyS_n A v (Or.inl (by omega))] at hp
    rw [va_up_ne _ _ (by decide), va_up_ne _ _ (by decide), lyS_n A v (Or.inl (by omega)), lyS_n A v (Or.inl (by omega))]
    exact hL.2.2.1 p hp
  · rw [lyS_n A v (Or.inl (by omega))] at hk
    rw [va_up_self]
    by_cases e : k = k0 ∧ j = j0
    · rw [e.1, e.2, pk_us, lyS_s]
    · rw [pk_un (by omega), lyS_n A v (by omega)]
      exact hL.2.2.2 k hk j hj
/-- the reference's image -/
theorem MI_part {s : Nat → Int32} {A : Lay} {k0 j0 v : Nat} (hB : LB A) (hM : MI s A) (hj0 : j0 < 6) : MI (upd s (14 + 6 * k0 + j0) (nI v)) (lyS A (4 + j0) k0 v) := by
  have hB2 := hB.2.1
  refine ⟨by rw [pk_un (by omega), lyS_n A v (Or.inl (by omega))]; exact hM.1, by rw [pk_un (by omega), lyS_n A v (Or.inl (by omega))]; exact hM.2.1, fun p hp => ?_, fun k hk j hj => ?_⟩
  · rw [lyS_n A v (Or.inl (by omega))] at hp
    rw [pk_un (by omega), pk_un (by omega), lyS_n A v (Or.inl (by omega)), lyS_n A v (Or.inl (by omega))]
    exact hM.2.2.1 p hp
  · rw [lyS_n A v (Or.inl (by omega))] at hk
    by_cases e : k = k0 ∧ j = j0
    · rw [e.1, e.2, pk_us, lyS_s]
    · rw [pk_un (by omega), lyS_n A v (by omega)]
      exact hM.2.2.2 k hk j hj
theorem st_widen {L K : Mm} {P : Nat → Nat} {Hs : Nat → Mm} {S N T R M : Mm} (h : INV L K P Hs S N T R M) (x1 : Int32) (x2 : Int32) : ∃ (r : Int32) (L' : Mm) (K' : Mm) (P' : Nat → Nat) (Hs' : Nat → Mm) (M' : Mm), F_X4_widen L K P Hs S N T R x1 x2 = some (r, L', K', P', Hs') ∧ F_X5_widen M x1 x2 = some (r, M') ∧ INV L' K' P' Hs' S N T R M' := by
  have hI := h
  obtain ⟨A, kept, Ah, len, hB, hL, hM, hC, hH, hT, hF⟩ := h
  have hB3 := hB.2.2.1
  unfold F_X4_widen F_X5_widen
  rw [pc_isPipe hL.2.1, b1_some, pm_isPipe hM.2.1, b1_some]
  by_cases c1 : (0 : Int32) ≤ x1 ∧ x1 ≤ nI (A 1 0) - 1
  · rw [if_pos c1, if_neg (show ¬ (1 : Int32) = 0 by decide), if_neg (show ¬ (1 : Int32) = 0 by decide), pc_within, b1_some, pr_in, b1_some]
    by_cases c2 : (1 : Int32) ≤ x2 ∧ x2 ≤ 9
    · rw [if_pos c2, if_neg (show ¬ (1 : Int32) = 0 by decide), if_neg (show ¬ (1 : Int32) = 0 by decide)]
      obtain ⟨k, hk, rfl⟩ := rg0 (by omega) c1
      obtain ⟨v, hv1, hv, rfl⟩ := rg (a := 1) (b := 9) (by omega) (by omega) c2
      obtain ⟨K', P', Hs', k3, hC'⟩ := pc_keep hC hB hL
      have hr := hM.2.2.2 k hk 3 (by omega)
      have hu := hB.2.2.2.2 k hk
      obtain ⟨M', M2, m1, m2, m3, m4, m5, m6, m7⟩ := pm_change (nI v) hC.1 hB hM hH (q := 14 + 6 * k + 3) (by omega) hr (by show A 7 k < 2 ^ 30; omega)
      rw [show (14 : Int32) + 6 * nI k + 3 = nI (14 + 6 * k + 3) from by rw [show (6 : Int32) = nI 6 from rfl, show (14 : Int32) = nI 14 from rfl, show (3 : Int32) = nI 3 from rfl, pk_mul, nI_add, nI_add], m1, k3, b3_some, show (3 : Int32) = nI 3 from rfl, pc_partOf L (by omega) (by omega), b1_some, pc_setPart L (by omega) (by omega), b1_some, hL.2.2.2 k hk 3 (by omega)]
      refine ⟨_, _, _, _, _, _, rfl, rfl, INV_ch (B := lyS A 7 k v) (M2 := M2) (M := M) ?_ (LI_part hL (by omega)) hC' m2 (by rw [m3]; exact MI_part hB hM (by omega)) m4 m5 m6 m7 hT hF⟩
      refine ⟨hB.1, hB.2.1, hB.2.2.1, fun p hp => hB.2.2.2.1 p hp, fun k' hk' => ?_⟩
      have hu' := hB.2.2.2.2 k' hk'
      by_cases e : k' = k
      · subst e
        rw [lyS_s, lyS_n A v (Or.inl (by decide)), lyS_n A v (Or.inl (by decide)), lyS_n A v (Or.inl (by decide)), lyS_n A v (Or.inl (by decide)), lyS_n A v (Or.inl (by decide)), lyS_n A v (Or.inl (by decide))]
        exact ⟨hu'.1, hu'.2.1, hu'.2.2.1, hu'.2.2.2.1, hu'.2.2.2.2.1, hv1, hv, hu'.2.2.2.2.2.2.2⟩
      · rw [lyS_n A v (Or.inr e), lyS_n A v (Or.inr e), lyS_n A v (Or.inr e), lyS_n A v (Or.inr e), lyS_n A v (Or.inr e), lyS_n A v (Or.inr e), lyS_n A v (Or.inl (by decide))]
        exact hu'
    · rw [if_neg c2, if_pos rfl, if_pos rfl]
      exact ⟨_, _, _, _, _, _, rfl, rfl, hI⟩
  · rw [if_neg c1, if_pos rfl, if_pos rfl]
    exact ⟨_, _, _, _, _, _, rfl, rfl, hI⟩
