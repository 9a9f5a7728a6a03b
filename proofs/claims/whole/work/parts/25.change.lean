/-! PURE PART: units, room, widen. -/
theorem pm_becomes (M : Mm) {q : Nat} (hq : q < 74) (v : Int32) : F_X5_becomes M (nI q) v = some (M 0 q, va_up M 0 (upd (M 0) q v)) := by
  unfold F_X5_becomes
  rw [ck_nI hq (by omega), ck_nI hq (by omega), sv_eq, nI_clamp (by omega)]
theorem nI_ninv {r : Nat} (hr : r < 2 ^ 30) : ¬ nI r ≤ (-1000001 : Int32) := by
  intro z
  have := Int32.le_trans (nI_pos' (n := r) (by omega)) z
  exact absurd this (by decide)
/-- the reference's change of one number -/
theorem pm_change {A : Lay} {kept : Nat} {Ah : Nat → Lay} {M : Mm} {q r : Nat} (v : Int32) (hk : kept ≤ 4) (hB : LB A) (hM : MI (M 0) A) (hH : HM kept Ah M) (hq : q < 74) (hr : M 0 q = nI r) (hr2 : r < 2 ^ 30) : ∃ M' M2 : Mm, (b1 (F_X5_keeps M) fun M7 => (b2 (F_X5_becomes M7 (nI q) v) fun u9 M10 => (b2 (F_X5_acted M10 u9) fun u12 M13 => some (u12, M13)))) = some (nI r, M') ∧ HM (nk kept) (nA kept Ah A) M' ∧ M2 0 = upd (M 0) q v ∧ (∀ q, q ≠ 1 → q ≠ 12 → M' q = M2 q) ∧ (∀ j, j ≠ 0 → M' 12 j = M2 12 j) ∧ M2 4 = M 4 ∧ M2 12 = M 12 := by
  obtain ⟨g, k1, k2⟩ := pr_keeps M
  rw [k1, b1_some, pm_becomes _ hq, b2_some, va_up_ne _ _ (show (0 : Nat) ≠ 2 by decide), hr]
  have hG : MI (va_up (va_up M 2 g) 0 (upd (M 0) q v) 2) A := by
    rw [va_up_ne _ _ (by decide), va_up_self]
    exact MI_of hB hM k2
  have hH2 : HM kept Ah (va_up (va_up M 2 g) 0 (upd (M 0) q v)) := by
    refine ⟨by rw [va_up_ne _ _ (by decide), va_up_ne _ _ (by decide)]; exact hH.1, fun i hi => ?_⟩
    rw [va_up_ne _ _ (by decide), va_up_ne _ _ (by decide)]
    exact hH.2 i hi
  obtain ⟨M', n1, n2, n3, n4⟩ := pr_acted hk hH2 hB hG (nI_ninv hr2)
  rw [n1, b2_some]
  exact ⟨_, _, rfl, n2, by rw [va_up_self], n3, n4, by rw [va_up_ne _ _ (by decide), va_up_ne _ _ (by decide)], by rw [va_up_ne _ _ (by decide), va_up_ne _ _ (by decide)]⟩
/-- the layout with one number set -/
def lyS (A : Lay) (i0 p v : Nat) : Lay := fun i j => if i = i0 ∧ j = p then v else A i j
theorem lyS_s (A : Lay) (i0 p v : Nat) : lyS A i0 p v i0 p = v := if_pos ⟨rfl, rfl⟩
theorem lyS_n (A : Lay) {i0 p : Nat} (v : Nat) {i j : Nat} (h : i ≠ i0 ∨ j ≠ p) : lyS A i0 p v i j = A i j := by
  unfold lyS
  rw [if_neg]
  intro z
  rcases h with h | h
  · exact h z.1
  · exact h z.2
theorem st_units {L K : Mm} {P : Nat → Nat} {Hs : Nat → Mm} {S N T R M : Mm} (h : INV L K P Hs S N T R M) (x1 : Int32) (x2 : Int32) : ∃ (r : Int32) (L' : Mm) (K' : Mm) (P' : Nat → Nat) (Hs' : Nat → Mm) (M' : Mm), F_X4_units L K P Hs S N T R x1 x2 = some (r, L', K', P', Hs') ∧ F_X5_units M x1 x2 = some (r, M') ∧ INV L' K' P' Hs' S N T R M' := by
  have hI := h
  obtain ⟨A, kept, Ah, len, hB, hL, hM, hC, hH, hT, hF⟩ := h
  have hB2 := hB.2.1
  unfold F_X4_units F_X5_units F_X1_badOfUnits
  rw [pc_isPlace hL.1, b1_some, pm_isPlace hM.1, b1_some]
  by_cases c1 : (0 : Int32) ≤ x1 ∧ x1 ≤ nI (A 0 0) - 1
  · rw [if_pos c1, if_neg (show ¬ (1 : Int32) = 0 by decide), if_neg (show ¬ (1 : Int32) = 0 by decide), pc_within, b1_some, pr_in, b1_some]
    by_cases c2 : (0 : Int32) ≤ x2 ∧ x2 ≤ 20
    · rw [if_pos c2, if_neg (show ¬ (1 : Int32) = 0 by decide), if_neg (show ¬ (1 : Int32) = 0 by decide), b1_some, if_pos rfl]
      obtain ⟨p, hp, rfl⟩ := rg0 (by omega) c1
      obtain ⟨v, -, hv, rfl⟩ := rg (a := 0) (b := 20) (by omega) (by omega) c2
      obtain ⟨K', P', Hs', k3, hC'⟩ := pc_keep hC hB hL
      have hr := (hM.2.2.1 p hp).1
      have hu := (hB.2.2.2.1 p hp).1
      obtain ⟨M', M2, m1, m2, m3, m4, m5, m6, m7⟩ := pm_change (nI v) hC.1 hB hM hH (q := 2 + 2 * p) (by omega) hr (by omega)
      rw [show (2 : Int32) + 2 * nI p = nI (2 + 2 * p) from by rw [show (2 : Int32) = nI 2 from rfl, pk_mul, nI_add], m1, k3, b3_some, ck_nI (by omega) (by omega), ck_nI (by omega) (by omega), sv_eq, nI_clamp (by omega), (hL.2.2.1 p hp).1]
      refine ⟨_, _, _, _, _, _, rfl, rfl, INV_ch (B := lyS A 2 p v) (M2 := M2) (M := M) ?_ ?_ hC' m2 ?_ m4 m5 m6 m7 hT hF⟩
      · refine ⟨hB.1, hB.2.1, hB.2.2.1, fun p' hp' => ?_, fun k hk => hB.2.2.2.2 k hk⟩
        by_cases e : p' = p
        · rw [e, lyS_s, lyS_n A v (Or.inl (by decide))]; exact ⟨hv, (hB.2.2.2.1 p hp).2⟩
        · rw [lyS_n A v (Or.inr e), lyS_n A v (Or.inr e)]; exact hB.2.2.2.1 p' hp'
      · refine ⟨by rw [va_up_ne _ _ (by decide)]; exact hL.1, by rw [va_up_ne _ _ (by decide)]; exact hL.2.1, fun p' hp' => ?_, fun k hk j hj => ?_⟩
        · rw [va_up_self, va_up_ne _ _ (by decide)]
          by_cases e : p' = p
          · rw [e, pk_us, lyS_s, lyS_n A v (Or.inl (by decide))]; exact ⟨rfl, (hL.2.2.1 p hp).2⟩
          · rw [pk_un e, lyS_n A v (Or.inr e), lyS_n A v (Or.inr e)]; exact hL.2.2.1 p' hp'
        · rw [va_up_ne _ _ (by decide), lyS_n A v (Or.inl (by omega))]; exact hL.2.2.2 k hk j hj
      · rw [m3]
        refine ⟨by rw [pk_un (by omega)]; exact hM.1, by rw [pk_un (by omega)]; exact hM.2.1, fun p' hp' => ?_, fun k hk j hj => ?_⟩
        · have hp' : p' < A 0 0 := hp'
          by_cases e : p' = p
          · rw [e, pk_us, pk_un (by omega), lyS_s, lyS_n A v (Or.inl (by decide))]; exact ⟨rfl, (hM.2.2.1 p hp).2⟩
          · rw [pk_un (by omega), pk_un (by omega), lyS_n A v (Or.inr e), lyS_n A v (Or.inr e)]; exact hM.2.2.1 p' hp'
        · rw [pk_un (by omega), lyS_n A v (Or.inl (by omega))]; exact hM.2.2.2 k hk j hj
    · rw [if_neg c2, if_pos rfl, if_pos rfl, b1_some, if_neg (by decide)]
      exact ⟨_, _, _, _, _, _, rfl, rfl, hI⟩
  · rw [if_neg c1, if_pos rfl, if_pos rfl, b1_some, if_neg (by decide)]
    exact ⟨_, _, _, _, _, _, rfl, rfl, hI⟩
theorem st_room {L K : Mm} {P : Nat → Nat} {Hs : Nat → Mm} {S N T R M : Mm} (h : INV L K P Hs S N T R M) (x1 : Int32) (x2 : Int32) : ∃ (r : Int32) (L' : Mm) (K' : Mm) (P' : Nat → Nat) (Hs' : Nat → Mm) (M' : Mm), F_X4_room L K P Hs S N T R x1 x2 = some (r, L', K', P', Hs') ∧ F_X5_room M x1 x2 = some (r, M') ∧ INV L' K' P' Hs' S N T R M' := by
  have hI := h
  obtain ⟨A, kept, Ah, len, hB, hL, hM, hC, hH, hT, hF⟩ := h
  have hB2 := hB.2.1
  unfold F_X4_room F_X5_room
  rw [pc_isPlace hL.1, b1_some, pm_isPlace hM.1, b1_some]
  by_cases c1 : (0 : Int32) ≤ x1 ∧ x1 ≤ nI (A 0 0) - 1
  · rw [if_pos c1, if_neg (show ¬ (1 : Int32) = 0 by decide), if_neg (show ¬ (1 : Int32) = 0 by decide), pc_within, b1_some, pr_in, b1_some]
    by_cases c2 : (0 : Int32) ≤ x2 ∧ x2 ≤ 40
    · rw [if_pos c2, if_neg (show ¬ (1 : Int32) = 0 by decide), if_neg (show ¬ (1 : Int32) = 0 by decide)]
      obtain ⟨p, hp, rfl⟩ := rg0 (by omega) c1
      obtain ⟨v, -, hv, rfl⟩ := rg (a := 0) (b := 40) (by omega) (by omega) c2
      obtain ⟨K', P', Hs', k3, hC'⟩ := pc_keep hC hB hL
      have hr := (hM.2.2.1 p hp).2
      have hu := (hB.2.2.2.1 p hp).2
      obtain ⟨M', M2, m1, m2, m3, m4, m5, m6, m7⟩ := pm_change (nI v) hC.1 hB hM hH (q := 2 + 2 * p + 1) (by omega) hr (by omega)
      rw [show (2 : Int32) + 2 * nI p + 1 = nI (2 + 2 * p + 1) from by rw [show (2 : Int32) = nI 2 from rfl, pk_mul, nI_add, nI_succ], m1, k3, b3_some, ck_nI (by omega) (by omega), ck_nI (by omega) (by omega), sv_eq, nI_clamp (by omega), (hL.2.2.1 p hp).2]
      refine ⟨_, _, _, _, _, _, rfl, rfl, INV_ch (B := lyS A 3 p v) (M2 := M2) (M := M) ?_ ?_ hC' m2 ?_ m4 m5 m6 m7 hT hF⟩
      · refine ⟨hB.1, hB.2.1, hB.2.2.1, fun p' hp' => ?_, fun k hk => hB.2.2.2.2 k hk⟩
        by_cases e : p' = p
        · rw [e, lyS_s, lyS_n A v (Or.inl (by decide))]; exact ⟨(hB.2.2.2.1 p hp).1, hv⟩
        · rw [lyS_n A v (Or.inr e), lyS_n A v (Or.inr e)]; exact hB.2.2.2.1 p' hp'
      · refine ⟨by rw [va_up_ne _ _ (by decide)]; exact hL.1, by rw [va_up_ne _ _ (by decide)]; exact hL.2.1, fun p' hp' => ?_, fun k hk j hj => ?_⟩
        · rw [va_up_self, va_up_ne _ _ (by decide)]
          by_cases e : p' = p
          · rw [e, pk_us, lyS_s, lyS_n A v (Or.inl (by decide))]; exact ⟨(hL.2.2.1 p hp).1, rfl⟩
          · rw [pk_un e, lyS_n A v (Or.inr e), lyS_n A v (Or.inr e)]; exact hL.2.2.1 p' hp'
        · rw [va_up_ne _ _ (by decide), lyS_n A v (Or.inl (by omega))]; exact hL.2.2.2 k hk j hj
      · rw [m3]
        refine ⟨by rw [pk_un (by omega)]; exact hM.1, by rw [pk_un (by omega)]; exact hM.2.1, fun p' hp' => ?_, fun k hk j hj => ?_⟩
        · have hp' : p' < A 0 0 := hp'
          by_cases e : p' = p
          · rw [e, pk_us, pk_un (by omega), lyS_s, lyS_n A v (Or.inl (by decide))]; exact ⟨(hM.2.2.1 p hp).1, rfl⟩
          · rw [pk_un (by omega), pk_un (by omega), lyS_n A v (Or.inr e), lyS_n A v (Or.inr e)]; exact hM.2.2.1 p' hp'
        · rw [pk_un (by omega), lyS_n A v (Or.inl (by omega))]; exact hM.2.2.2 k hk j hj
    · rw [if_neg c2, if_pos rfl, if_pos rfl]
      exact ⟨_, _, _, _, _, _, rfl, rfl, hI⟩
  · rw [if_neg c1, if_pos rfl, if_pos rfl]
    exact ⟨_, _, _, _, _, _, rfl, rfl, hI⟩
