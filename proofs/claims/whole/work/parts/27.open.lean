/-! PURE PART: open. -/
theorem pm_act {A : Lay} {kept : Nat} {Ah : Nat → Lay} {M M3 : Mm} {g : Nat → Int32} {r : Nat} (hk : kept ≤ 4) (hB : LB A) (hM : MI (M 0) A) (hH : HM kept Ah M) (k2 : ∀ j, j < 74 → g j = M 0 j) (e : ∀ q, q ≠ 0 → M3 q = va_up M 2 g q) (hr2 : r < 2 ^ 30) : ∃ M', F_X5_acted M3 (nI r) = some (nI r, M') ∧ HM (nk kept) (nA kept Ah A) M' ∧ (∀ q, q ≠ 1 → q ≠ 12 → M' q = M3 q) ∧ (∀ j, j ≠ 0 → M' 12 j = M3 12 j) ∧ M3 4 = M 4 ∧ M3 12 = M 12 := by
  have hG : MI (M3 2) A := by
    rw [e 2 (by decide), va_up_self]
    exact MI_of hB hM k2
  have hH2 : HM kept Ah M3 := by
    refine ⟨by rw [e 12 (by decide), va_up_ne _ _ (by decide)]; exact hH.1, fun i hi => ?_⟩
    rw [e 1 (by decide), va_up_ne _ _ (by decide)]
    exact hH.2 i hi
  obtain ⟨M', n1, n2, n3, n4⟩ := pr_acted hk hH2 hB hG (nI_ninv hr2)
  exact ⟨M', n1, n2, n3, n4, by rw [e 4 (by decide), va_up_ne _ _ (by decide)], by rw [e 12 (by decide), va_up_ne _ _ (by decide)]⟩
theorem pc_isTick (x : Int32) : F_X4_isTick x = some (if (0 : Int32) ≤ x ∧ x ≤ 15 then 1 else 0) := by
  unfold F_X4_isTick
  rw [pc_within, b1_some]
  by_cases c : (0 : Int32) ≤ x ∧ x ≤ 15
  · rw [if_pos c, cz_1]
  · rw [if_neg c, cz_0]
theorem LB_part {A : Lay} {i0 k0 v : Nat} (hB : LB A) (hi : i0 = 8 ∨ i0 = 9) (hv : v ≤ 15) : LB (lyS A i0 k0 v) := by
  refine ⟨by rw [lyS_n A v (Or.inl (by omega))]; exact hB.1, by rw [lyS_n A v (Or.inl (by omega))]; exact hB.2.1, by rw [lyS_n A v (Or.inl (by omega))]; exact hB.2.2.1, fun p hp => ?_, fun k hk => ?_⟩
  · rw [lyS_n A v (Or.inl (by omega))] at hp
    rw [lyS_n A v (Or.inl (by omega)), lyS_n A v (Or.inl (by omega))]
    exact hB.2.2.2.1 p hp
  · rw [lyS_n A v (Or.inl (by omega))] at hk
    obtain ⟨q1, q2, q3, q4, q5, q6, q7, q8, q9⟩ := hB.2.2.2.2 k hk
    rw [lyS_n A v (i := 4) (Or.inl (by omega)), lyS_n A v (i := 5) (Or.inl (by omega)), lyS_n A v (i := 6) (Or.inl (by omega)), lyS_n A v (i := 7) (Or.inl (by omega)), lyS_n A v (i := 0) (Or.inl (by omega))]
    refine ⟨q1, q2, q3, q4, q5, q6, q7, ?_, ?_⟩
    · unfold lyS; split <;> omega
    · unfold lyS; split <;> omega
theorem st_open {L K : Mm} {P : Nat → Nat} {Hs : Nat → Mm} {S N T R M : Mm} (h : INV L K P Hs S N T R M) (x1 : Int32) (x2 : Int32) (x3 : Int32) : ∃ (r : Int32) (L' : Mm) (K' : Mm) (P' : Nat → Nat) (Hs' : Nat → Mm) (M' : Mm), F_X4_open L K P Hs S N T R x1 x2 x3 = some (r, L', K', P', Hs') ∧ F_X5_open M x1 x2 x3 = some (r, M') ∧ INV L' K' P' Hs' S N T R M' := by
  have hI := h
  obtain ⟨A, kept, Ah, len, hB, hL, hM, hC, hH, hT, hF⟩ := h
  have hB3 := hB.2.2.1
  unfold F_X4_open F_X5_open F_X1_badOfOpening
  rw [pc_isPipe hL.2.1, b1_some, pm_isPipe hM.2.1, b1_some]
  by_cases c1 : (0 : Int32) ≤ x1 ∧ x1 ≤ nI (A 1 0) - 1
  · rw [if_pos c1, if_neg (show ¬ (1 : Int32) = 0 by decide), if_neg (show ¬ (1 : Int32) = 0 by decide), pc_isTick, b1_some, pr_in, b1_some]
    by_cases c2 : (0 : Int32) ≤ x2 ∧ x2 ≤ 15
    · rw [if_pos c2, if_neg (show ¬ (1 : Int32) = 0 by decide), if_neg (show ¬ (1 : Int32) = 0 by decide), pc_isTick, b1_some, pr_in, b1_some]
      by_cases c3 : (0 : Int32) ≤ x3 ∧ x3 ≤ 15
      · rw [if_pos c3, if_neg (show ¬ (1 : Int32) = 0 by decide), if_neg (show ¬ (1 : Int32) = 0 by decide), b1_some, if_pos rfl]
        obtain ⟨k, hk, rfl⟩ := rg0 (by omega) c1
        obtain ⟨v, -, hv, rfl⟩ := rg (a := 0) (b := 15) (by omega) (by omega) c2
        obtain ⟨w, -, hw, rfl⟩ := rg (a := 0) (b := 15) (by omega) (by omega) c3
        obtain ⟨K', P', Hs', k3, hC'⟩ := pc_keep hC hB hL
        obtain ⟨g, g1, g2⟩ := pr_keeps M
        have hM0 : va_up M 2 g 0 = M 0 := va_up_ne _ _ (by decide)
        have ho : F_X5_opens (va_up M 2 g) (nI k) (nI v) (nI w) = some (nI (if v ≤ w then w - v + 1 else 0), va_up (va_up M 2 g) 0 (upd (upd (M 0) (14 + 6 * k + 4) (nI v)) (14 + 6 * k + 5) (nI w))) := by
          unfold F_X5_opens
          rw [show (6 : Int32) = nI 6 from rfl, show (14 : Int32) = nI 14 from rfl, show (4 : Int32) = nI 4 from rfl, show (5 : Int32) = nI 5 from rfl, pk_mul, nI_add, nI_add, nI_add, ck_nI (by omega) (by omega), sv_eq, ck_nI (by omega) (by omega), sv_eq, nI_clamp (by omega), nI_clamp (by omega), va_up_self, hM0, bx_uu]
          by_cases c : v ≤ w
          · rw [if_pos (nI_le c (by omega)), if_pos c, pk_sub c, ← nI_succ]
          · rw [if_neg (nI_ge (by omega) (by omega)), if_neg c]
            rfl
        have hr : (if v ≤ w then w - v + 1 else 0) < 2 ^ 30 := by split <;> omega
        obtain ⟨M', m1, m2, m4, m5, m6, m7⟩ := pm_act (M3 := va_up (va_up M 2 g) 0 (upd (upd (M 0) (14 + 6 * k + 4) (nI v)) (14 + 6 * k + 5) (nI w))) hC.1 hB hM hH g2 (fun q hq => va_up_ne _ _ hq) hr
        rw [g1, b1_some, ho, b2_some, m1, b2_some, k3, b3_some]
        unfold F_X1_setOpening
        rw [show (4 : Int32) = nI 4 from rfl, show (5 : Int32) = nI 5 from rfl, pc_setPart L (by omega) (by omega), b1_some, pc_setPart _ (by omega) (by omega), b1_some, b1_some]
        have ha : (if (0 : Int32) < nI w - nI v + 1 then nI w - nI v + 1 else (0 : Int32)) = nI (if v ≤ w then w - v + 1 else 0) := by
          by_cases c : v ≤ w
          · rw [pk_sub c, ← nI_succ, if_pos c, if_pos (show (0 : Int32) < nI (w - v + 1) from nI_lt (a := 0) (by omega) (by omega))]
          · rw [if_neg c, if_neg]
            · rfl
            · have e1 : (nI (w + 1) - nI v).toInt = ((w + 1 : Nat) : Int) - v := pk_sub_toInt (by omega) (by omega)
              have e2 : nI w - nI v + 1 = nI (w + 1) - nI v := by rw [nI_succ, Int32.sub_eq_add_neg, Int32.sub_eq_add_neg, Int32.add_assoc, Int32.add_assoc, Int32.add_comm (-nI v)]
              rw [e2]
              intro z
              have z1 := Int32.lt_iff_toInt_lt.mp z
              rw [e1] at z1
              have : (0 : Int32).toInt = 0 := rfl
              omega
        rw [ha]
        refine ⟨_, _, _, _, _, _, rfl, rfl, INV_ch (B := lyS (lyS A 8 k v) 9 k w) (M := M) (LB_part (LB_part hB (Or.inl rfl) hv) (Or.inr rfl) hw) (LI_part (j0 := 5) (LI_part (j0 := 4) hL (by omega)) (by omega)) hC' m2 ?_ m4 m5 m6 m7 hT hF⟩
        rw [va_up_self]
        exact MI_part (j0 := 5) (LB_part hB (Or.inl rfl) hv) (MI_part (j0 := 4) hB hM (by omega)) (by omega)
      · rw [if_neg c3, if_pos rfl, if_pos rfl, b1_some, if_neg (by decide)]
        exact ⟨_, _, _, _, _, _, rfl, rfl, hI⟩
    · rw [if_neg c2, if_pos rfl, if_pos rfl, b1_some, if_neg (by decide)]
      exact ⟨_, _, _, _, _, _, rfl, rfl, hI⟩
  · rw [if_neg c1, if_pos rfl, if_pos rfl, b1_some, if_neg (by decide)]
    exact ⟨_, _, _, _, _, _, rfl, rfl, hI⟩
