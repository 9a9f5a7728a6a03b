/-! PURE PART: dropPipe. -/
theorem pr_drop_30 {c : Nat} (hc : c < 10) : ∀ (r n y : Nat) (M : Mm), y + r = 6 * c → r < n → M 0 1 = nI c → ∃ f : Nat → Int32, F_X5_dropPipe_30 n M (nI y) = (b2 (F_X5_acted (va_up M 0 f) (nI c)) fun u4 M5 => some (u4, M5)) ∧ (∀ j, y ≤ j → j < 6 * c → f (14 + j) = M 0 (14 + j + 6)) ∧ (∀ q, q < 14 + y → f q = M 0 q)
  | r, 0, y, M, _, h, _ => by omega
  | 0, n + 1, y, M, hy, h, hM => by
    refine ⟨M 0, ?_, fun j h1 h2 => by omega, fun q _ => rfl⟩
    have e : va_up M 0 (M 0) = M := by funext q; unfold va_up; by_cases h : q = 0; rw [if_pos h, h]; rw [if_neg h]
    rw [e]
    show ck (nI 1) 74 (if (nI 6 * (M 0 (nI 1).toNatClampNeg)) ≤ nI y then ck (nI 1) 74 (b2 (F_X5_acted M (M 0 (nI 1).toNatClampNeg)) fun u4 M5 => some (u4, M5)) else _) = _
    rw [ck_nI (by omega) (by omega), nI_clamp (by omega), hM, pk_mul, if_pos (nI_le (by omega) (by omega)), ck_nI (by omega) (by omega)]
  | r + 1, n + 1, y, M, hy, h, hM => by
    show ∃ f, ck (nI 1) 74 (if (nI 6 * (M 0 (nI 1).toNatClampNeg)) ≤ nI y then _ else ck ((nI 14 + nI y) + nI 6) 74 (ck (nI 14 + nI y) 74 (sv (va_up M 0 (upd (M 0) (nI 14 + nI y).toNatClampNeg (M 0 ((nI 14 + nI y) + nI 6).toNatClampNeg))) fun M9 => F_X5_dropPipe_30 n M9 (nI y + 1)))) = _ ∧ _
    rw [ck_nI (by omega) (by omega), nI_clamp (by omega), hM, pk_mul, if_neg (nI_ge (by omega) (by omega)), nI_add, nI_add, ck_nI (by omega) (by omega), ck_nI (by omega) (by omega), sv_eq, nI_clamp (by omega), nI_clamp (by omega), ← nI_succ]
    obtain ⟨f, h1, h2, h3⟩ := pr_drop_30 hc r n (y + 1) (va_up M 0 (upd (M 0) (14 + y) (M 0 (14 + y + 6)))) (by omega) (by omega) (by rw [va_up_self, pk_un (by omega)]; exact hM)
    refine ⟨f, by rw [h1, bx_uu], fun j hj hj2 => ?_, fun q hq => ?_⟩
    · by_cases hjk : j = y
      · rw [hjk, h3 _ (by omega), va_up_self]; exact pk_us
      · rw [h2 j (by omega) hj2, va_up_self, pk_un (by omega)]
    · rw [h3 q (by omega), va_up_self, pk_un (by omega)]
/-- the layout without a pipe -/
def lyD (A : Lay) (k0 : Nat) : Lay := fun i j => if i = 1 then A 1 0 - 1 else if 4 ≤ i then (if j < k0 then A i j else A i (j + 1)) else A i j
theorem st_dropPipe {L K : Mm} {P : Nat → Nat} {Hs : Nat → Mm} {S N T R M : Mm} (h : INV L K P Hs S N T R M) (x1 : Int32) : ∃ (r : Int32) (L' : Mm) (K' : Mm) (P' : Nat → Nat) (Hs' : Nat → Mm) (M' : Mm), F_X4_dropPipe L K P Hs S N T R x1 = some (r, L', K', P', Hs') ∧ F_X5_dropPipe M x1 = some (r, M') ∧ INV L' K' P' Hs' S N T R M' := by
  have hI := h
  obtain ⟨A, kept, Ah, len, hB, hL, hM, hC, hH, hT, hF⟩ := h
  have hB3 := hB.2.2.1
  have hB2 := hB.2.1
  unfold F_X4_dropPipe F_X5_dropPipe
  rw [pc_isPipe hL.2.1, b1_some, pm_isPipe hM.2.1, b1_some]
  by_cases c1 : (0 : Int32) ≤ x1 ∧ x1 ≤ nI (A 1 0) - 1
  · rw [if_pos c1, if_neg (show ¬ (1 : Int32) = 0 by decide), if_neg (show ¬ (1 : Int32) = 0 by decide)]
    obtain ⟨k, hk, rfl⟩ := rg0 (by omega) c1
    obtain ⟨K', P', Hs', k3, hC'⟩ := pc_keep hC hB hL
    obtain ⟨g, g1, g2⟩ := pr_keeps M
    have hM0 : va_up M 2 g 0 = M 0 := va_up_ne _ _ (by decide)
    obtain ⟨c, hc⟩ : ∃ c, A 1 0 = c + 1 := ⟨A 1 0 - 1, by omega⟩
    rw [g1, b1_some, k3, b3_some, show (1 : Int32) = nI 1 from rfl, ck_nI (by omega) (by omega), ck_nI (by omega) (by omega), sv_eq, nI_clamp (by omega), hM0, hM.2.1, hc, show nI (c + 1) - nI 1 = nI c from nI_pred c, show (6 : Int32) = nI 6 from rfl, pk_mul]
    obtain ⟨f, f1, f2, f3⟩ := pr_drop_30 (c := c) (by omega) (6 * c - 6 * k) FU (6 * k) (va_up (va_up M 2 g) 0 (upd (M 0) 1 (nI c))) (by omega) (by rw [FU_eq]; omega) (by rw [va_up_self]; exact pk_us)
    rw [f1, bx_uu]
    obtain ⟨M', m1, m2, m4, m5, m6, m7⟩ := pm_act (M3 := va_up (va_up M 2 g) 0 f) (r := c) hC.1 hB hM hH g2 (fun q hq => va_up_ne _ _ hq) (by omega)
    rw [m1, b2_some]
    have hrm : F_X1_removePipe L (nI k) = some (va_up (va_up L 2 (va_cpy (L 2) (L 2) ((k + 1) * 6) (k * 6) (60 - (k + 1) * 6))) 3 (upd (L 3) 1 (nI c))) := by
      unfold F_X1_removePipe
      rw [show (60 : Int32) = nI 60 from rfl, show (6 : Int32) = nI 6 from rfl, ← nI_succ, pk_mul, pk_mul, pk_sub (by omega), cp_in (by omega) (by omega) (by omega) (by omega), sv_eq, sv_eq, nI_clamp (by omega), nI_clamp (by omega), nI_clamp (by omega), va_up_ne _ _ (show (3 : Nat) ≠ 2 by decide), hL.2.1, hc, nI_pred]
    rw [hrm, b1_some, va_up_self, pk_us]
    have d4 : ∀ i j, lyD A k (4 + i) j = if j < k then A (4 + i) j else A (4 + i) (j + 1) := by
      intro i j; unfold lyD; rw [if_neg (by omega), if_pos (by omega)]
    refine ⟨_, _, _, _, _, _, rfl, rfl, INV_ch (B := lyD A k) (M := M) ?_ ?_ hC' m2 ?_ m4 m5 m6 m7 hT hF⟩
    · refine ⟨hB.1, hB.2.1, by show A 1 0 - 1 ≤ 10; omega, fun p hp => hB.2.2.2.1 p hp, fun j hj => ?_⟩
      have hj : j < A 1 0 - 1 := hj
      by_cases e : j < k
      · have e' : ∀ i, 4 ≤ i → lyD A k i j = A i j := fun i hi => by unfold lyD; rw [if_neg (by omega), if_pos hi, if_pos e]
        rw [e' 4 (by omega), e' 5 (by omega), e' 6 (by omega), e' 7 (by omega), e' 8 (by omega), e' 9 (by omega)]
        exact hB.2.2.2.2 j (by omega)
      · have e' : ∀ i, 4 ≤ i → lyD A k i j = A i (j + 1) := fun i hi => by unfold lyD; rw [if_neg (by omega), if_pos hi, if_neg e]
        rw [e' 4 (by omega), e' 5 (by omega), e' 6 (by omega), e' 7 (by omega), e' 8 (by omega), e' 9 (by omega)]
        exact hB.2.2.2.2 (j + 1) (by omega)
    · refine ⟨by rw [va_up_self, pk_un (by decide)]; exact hL.1, ?_, fun p hp => ?_, fun k' hk' j hj => ?_⟩
      · rw [va_up_self, pk_us]; show nI c = nI (A 1 0 - 1); rw [hc]; rfl
      · rw [va_up_ne _ _ (by decide), va_up_ne _ _ (by decide), va_up_ne _ _ (by decide), va_up_ne _ _ (by decide)]; exact hL.2.2.1 p hp
      · have hk' : k' < A 1 0 - 1 := hk'
        rw [va_up_ne _ _ (by decide), va_up_self, d4]
        by_cases e : k' < k
        · rw [if_pos e, pk_cpy_out (by omega)]; exact hL.2.2.2 k' (by omega) j hj
        · rw [if_neg e, pk_cpy_in (by omega) (by omega), show (k + 1) * 6 + (k' * 6 + j - k * 6) = (k' + 1) * 6 + j by omega]; exact hL.2.2.2 (k' + 1) (by omega) j hj
    · rw [va_up_self]
      have q3 : ∀ q, q < 14 + 6 * k → q ≠ 1 → f q = M 0 q := fun q hq h1 => by rw [f3 q hq, va_up_self, pk_un h1]
      refine ⟨by rw [q3 0 (by omega) (by omega)]; exact hM.1, ?_, fun p hp => ?_, fun k' hk' j hj => ?_⟩
      · rw [f3 1 (by omega), va_up_self, pk_us]; show nI c = nI (A 1 0 - 1); rw [hc]; rfl
      · have hp : p < A 0 0 := hp
        rw [q3 _ (by omega) (by omega), q3 _ (by omega) (by omega)]; exact hM.2.2.1 p hp
      · have hk' : k' < A 1 0 - 1 := hk'
        rw [d4]
        by_cases e : k' < k
        · rw [if_pos e, q3 _ (by omega) (by omega)]; exact hM.2.2.2 k' (by omega) j hj
        · rw [if_neg e, show 14 + 6 * k' + j = 14 + (6 * k' + j) by omega, f2 _ (by omega) (by omega), va_up_self, pk_un (by omega), show 14 + (6 * k' + j) + 6 = 14 + 6 * (k' + 1) + j by omega]; exact hM.2.2.2 (k' + 1) (by omega) j hj
  · rw [if_neg c1, if_pos rfl, if_pos rfl]
    exact ⟨_, _, _, _, _, _, rfl, rfl, hI⟩
