/-! PURE PART: count. -/
def su (g : Nat → Nat) : Nat → Nat
  | 0 => 0
  | n + 1 => su g n + g n
theorem pc_allUnits_4 {L : Mm} {A : Lay} (hB : LB A) (hL : LI L A) : ∀ (r n k : Nat), k + r = A 0 0 → r < n → F_X1_allUnits_4 n L (nI (su (A 2) k)) (nI k) = some (nI (su (A 2) (A 0 0)))
  | r, 0, k, _, h => by omega
  | 0, n + 1, k, hk, h => by
    have hB2 := hB.2.1
    show F_X1_allUnitsB_4 (F_X1_allUnits_4 n) L _ _ = _
    unfold F_X1_allUnitsB_4
    have e : k = A 0 0 := by omega
    rw [hL.1, e, if_pos (nI_le (Nat.le_refl _) (by omega))]
  | r + 1, n + 1, k, hk, h => by
    have hB2 := hB.2.1
    show F_X1_allUnitsB_4 (F_X1_allUnits_4 n) L _ _ = _
    unfold F_X1_allUnitsB_4
    rw [hL.1, if_neg (nI_ge (by omega) (by omega)), ck_nI (by omega) (by omega), nI_clamp (by omega), (hL.2.2.1 k (by omega)).1, nI_add, ← nI_succ]
    exact pc_allUnits_4 hB hL r n (k + 1) (by omega) (by omega)
theorem pc_allUnits {L : Mm} {A : Lay} (hB : LB A) (hL : LI L A) : F_X1_allUnits L = some (nI (su (A 2) (A 0 0))) := pc_allUnits_4 hB hL (A 0 0) FU 0 (by omega) (by have := hB.2.1; rw [FU_eq]; omega)
theorem pm_all_4 {M : Mm} {A : Lay} (hB : LB A) (hM : MI (M 0) A) : ∀ (r n k : Nat), k + r = A 0 0 → r < n → F_X5_all_4 n M (nI (su (A 2) k)) (nI k) = some (nI (su (A 2) (A 0 0)))
  | r, 0, k, _, h => by omega
  | 0, n + 1, k, hk, h => by
    have hB2 := hB.2.1
    show F_X5_allB_4 (F_X5_all_4 n) M _ _ = _
    unfold F_X5_allB_4
    have e : k = A 0 0 := by omega
    rw [show (0 : Int32) = nI 0 from rfl, ck_nI (by omega) (by omega), nI_clamp (by omega), hM.1, e, if_pos (nI_le (Nat.le_refl _) (by omega))]
  | r + 1, n + 1, k, hk, h => by
    have hB2 := hB.2.1
    show F_X5_allB_4 (F_X5_all_4 n) M _ _ = _
    unfold F_X5_allB_4
    rw [show (0 : Int32) = nI 0 from rfl, ck_nI (by omega) (by omega), nI_clamp (by omega), hM.1, if_neg (nI_ge (by omega) (by omega)), show (2 : Int32) = nI 2 from rfl, pk_mul, nI_add, ck_nI (by omega) (by omega), nI_clamp (by omega), (hM.2.2.1 k (by omega)).1, nI_add, ← nI_succ]
    exact pm_all_4 hB hM r n (k + 1) (by omega) (by omega)
theorem pm_all {M : Mm} {A : Lay} (hB : LB A) (hM : MI (M 0) A) : F_X5_all M = some (nI (su (A 2) (A 0 0))) := pm_all_4 hB hM (A 0 0) FU 0 (by omega) (by have := hB.2.1; rw [FU_eq]; omega)
theorem pc_allBounds_4 {L : Mm} {A : Lay} (hB : LB A) (hL : LI L A) : ∀ (r n k : Nat), k + r = A 1 0 → r < n → F_X1_allBounds_4 n L (nI (su (A 7) k)) (nI k) = some (nI (su (A 7) (A 1 0)))
  | r, 0, k, _, h => by omega
  | 0, n + 1, k, hk, h => by
    have hB2 := hB.2.2.1
    show F_X1_allBoundsB_4 (F_X1_allBounds_4 n) L _ _ = _
    unfold F_X1_allBoundsB_4
    have e : k = A 1 0 := by omega
    rw [hL.2.1, e, if_pos (nI_le (Nat.le_refl _) (by omega))]
  | r + 1, n + 1, k, hk, h => by
    have hB2 := hB.2.2.1
    show F_X1_allBoundsB_4 (F_X1_allBounds_4 n) L _ _ = _
    unfold F_X1_allBoundsB_4
    have e7 : L 2 (k * 6 + 3) = nI (A 7 k) := hL.2.2.2 k (by omega) 3 (by omega)
    rw [hL.2.1, if_neg (nI_ge (by omega) (by omega)), show (3 : Int32) = nI 3 from rfl, pc_partOf L (by omega) (by omega), b1_some, e7, nI_add, ← nI_succ]
    exact pc_allBounds_4 hB hL r n (k + 1) (by omega) (by omega)
theorem pm_bounds_4 {M : Mm} {A : Lay} (hB : LB A) (hM : MI (M 0) A) : ∀ (r n k : Nat), k + r = A 1 0 → r < n → F_X5_bounds_4 n M (nI (su (A 7) k)) (nI k) = some (nI (su (A 7) (A 1 0)))
  | r, 0, k, _, h => by omega
  | 0, n + 1, k, hk, h => by
    have hB2 := hB.2.2.1
    show ck (nI 1) 74 (if (M 0 (nI 1).toNatClampNeg) ≤ nI k then some (nI (su (A 7) k)) else _) = _
    have e : k = A 1 0 := by omega
    rw [ck_nI (by omega) (by omega), nI_clamp (by omega), hM.2.1, e, if_pos (nI_le (Nat.le_refl _) (by omega))]
  | r + 1, n + 1, k, hk, h => by
    have hB2 := hB.2.2.1
    show ck (nI 1) 74 (if (M 0 (nI 1).toNatClampNeg) ≤ nI k then some (nI (su (A 7) k)) else (b1 (F_X5_pi M (nI k) (nI 3)) fun u3 => F_X5_bounds_4 n M (nI (su (A 7) k) + u3) (nI k + 1))) = _
    have e7 : M 0 (14 + 6 * k + 3) = nI (A 7 k) := hM.2.2.2 k (by omega) 3 (by omega)
    rw [ck_nI (by omega) (by omega), nI_clamp (by omega), hM.2.1, if_neg (nI_ge (by omega) (by omega)), pm_pi M (by omega) (by omega), b1_some, e7, nI_add, ← nI_succ]
    exact pm_bounds_4 hB hM r n (k + 1) (by omega) (by omega)
theorem st_count {L K : Mm} {P : Nat → Nat} {Hs : Nat → Mm} {S N T R M : Mm} (h : INV L K P Hs S N T R M) (x1 : Int32) : ∃ (r : Int32), F_X4_count L K P Hs S N T R x1 = some r ∧ F_X5_count M x1 = some r ∧ INV L K P Hs S N T R M := by
  have hI := h
  obtain ⟨A, kept, Ah, len, hB, hL, hM, hC, hH, hT, hF⟩ := h
  have hB3 := hB.2.2.1
  have b1' : F_X1_allBounds L = some (nI (su (A 7) (A 1 0))) := pc_allBounds_4 hB hL (A 1 0) FU 0 (by omega) (by rw [FU_eq]; omega)
  have b2' : F_X5_bounds M = some (nI (su (A 7) (A 1 0))) := pm_bounds_4 hB hM (A 1 0) FU 0 (by omega) (by rw [FU_eq]; omega)
  unfold F_X4_count F_X5_count
  by_cases c0 : x1 = (0 : Int32)
  · rw [if_pos c0, if_pos c0, c0, show (0 : Int32) = nI 0 from rfl, ck_nI (by omega) (by omega), nI_clamp (by omega), hM.1, hL.1]
    exact ⟨_, rfl, rfl, hI⟩
  rw [if_neg c0, if_neg c0]
  by_cases c1 : x1 = (1 : Int32)
  · rw [if_pos c1, if_pos c1, c1, show (1 : Int32) = nI 1 from rfl, ck_nI (by omega) (by omega), nI_clamp (by omega), hM.2.1, hL.2.1]
    exact ⟨_, rfl, rfl, hI⟩
  rw [if_neg c1, if_neg c1]
  by_cases c2 : x1 = (2 : Int32)
  · rw [if_pos c2, if_pos c2, pc_allUnits hB hL, pm_all hB hM, b1_some]
    exact ⟨_, rfl, rfl, hI⟩
  rw [if_neg c2, if_neg c2]
  by_cases c3 : x1 = (3 : Int32)
  · rw [if_pos c3, if_pos c3, b1', b2', b1_some]
    exact ⟨_, rfl, rfl, hI⟩
  rw [if_neg c3, if_neg c3]
  by_cases c4 : x1 = (4 : Int32)
  · rw [if_pos c4, if_pos c4, hC.2.1, hH.1]
    exact ⟨_, rfl, rfl, hI⟩
  rw [if_neg c4, if_neg c4]
  by_cases c5 : x1 = (5 : Int32)
  · rw [if_pos c5, if_pos c5, hT.2.1, hT.2.2.1]
    exact ⟨_, rfl, rfl, hI⟩
  rw [if_neg c5, if_neg c5]
  exact ⟨_, rfl, rfl, hI⟩
