/-! PURE PART: undo. -/
theorem pr_undo_22 {c : Nat} (hc : c < 4) : ∀ (r n k : Nat) (M : Mm), k + r = 74 → r < n → M 12 0 = nI c → ∃ f : Nat → Int32, F_X5_undo_22 n M (nI k) = some (nI c, va_up M 0 f) ∧ (∀ j, k ≤ j → j < 74 → f j = M 1 (74 * c + j)) ∧ (∀ q, q < k → f q = M 0 q)
  | r, 0, k, M, _, h, _ => by omega
  | 0, n + 1, k, M, hk, h, hM => by
    have hk : k = 74 := by omega
    subst hk
    refine ⟨M 0, ?_, fun j h1 h2 => by omega, fun q _ => rfl⟩
    have e : va_up M 0 (M 0) = M := by funext q; unfold va_up; by_cases h : q = 0; rw [if_pos h, h]; rw [if_neg h]
    rw [e]
    show F_X5_undoB_22 (F_X5_undo_22 n) M (nI 74) = _
    unfold F_X5_undoB_22
    rw [if_pos (by decide), hM]
  | r + 1, n + 1, k, M, hk, h, hM => by
    have e1 : ¬ (74 : Int32) ≤ nI k := nI_ge (a := k) (b := 74) (by omega) (by omega)
    show ∃ f, F_X5_undoB_22 (F_X5_undo_22 n) M (nI k) = _ ∧ _
    unfold F_X5_undoB_22
    rw [if_neg e1, hM, show (74 : Int32) = nI 74 from rfl, pk_mul, nI_add, ck_nI (by omega) (by omega), ck_nI (by omega) (by omega), sv_eq, nI_clamp (by omega), nI_clamp (by omega), ← nI_succ]
    obtain ⟨f, h1, h2, h3⟩ := pr_undo_22 hc r n (k + 1) (va_up M 0 (upd (M 0) k (M 1 (74 * c + k)))) (by omega) (by omega) (by rw [va_up_ne _ _ (by decide)]; exact hM)
    refine ⟨f, by rw [h1, bx_uu], fun j hj hj2 => ?_, fun q hq => ?_⟩
    · by_cases hjk : j = k
      · rw [hjk, h3 _ (by omega), va_up_self]; exact pk_us
      · rw [h2 j (by omega) hj2, va_up_ne _ _ (by decide)]
    · rw [h3 q (by omega), va_up_self, pk_un (by omega)]
theorem st_undo {L K : Mm} {P : Nat → Nat} {Hs : Nat → Mm} {S N T R M : Mm} (h : INV L K P Hs S N T R M) : ∃ (r : Int32) (L' : Mm) (K' : Mm) (M' : Mm), F_X4_undo L K P Hs S N T R = some (r, L', K') ∧ F_X5_undo M = some (r, M') ∧ INV L' K' P Hs S N T R M' := by
  have hI := h
  obtain ⟨A, kept, Ah, len, hB, hL, hM, hC, hH, hT, hF⟩ := h
  have hk4 := hC.1
  unfold F_X4_undo F_X5_undo
  rw [hC.2.1, hH.1]
  cases kept with
  | zero =>
    rw [if_pos (show nI 0 = (0 : Int32) from rfl), if_pos (show nI 0 = (0 : Int32) from rfl)]
    exact ⟨_, _, _, _, rfl, rfl, hI⟩
  | succ c =>
    have hn : ¬ nI (c + 1) = (0 : Int32) := fun z => by have := (nI_eq (a := c + 1) (b := 0) (by omega) (by omega)).mp z; omega
    rw [if_neg hn, if_neg hn, nI_pred, sv_eq]
    obtain ⟨f, f1, f2, -⟩ := pr_undo_22 (c := c) (by omega) 74 FU 0 (va_up M 12 (upd (M 12) 0 (nI c))) rfl (by decide) (by rw [va_up_self]; exact pk_us)
    have hP := hC.2.2.1 c (by omega)
    obtain ⟨L2, c1, c2⟩ := pc_copyFrom L (Hs (P c))
    have hr : F_X0_restore K P Hs L = some (va_up K 0 (upd (K 0) 0 (nI c)), L2) := by
      unfold F_X0_restore
      rw [hC.2.1, nI_pred, sv_eq, va_up_self, pk_us, ck_nI (by omega) (by omega), nI_clamp (by omega), if_pos hP, c1, b1_some]
    rw [hr, b2_some, show (0 : Int32) = nI 0 from rfl, f1, va_up_self, pk_us]
    obtain ⟨g1, g2⟩ := hH.2 c (by omega)
    refine ⟨_, _, _, _, rfl, rfl, Ah c, c, Ah, len, g1, LI_copy g1 (hC.2.2.2.2 c (by omega)) c1, ?_, ⟨by omega, by rw [va_up_self]; exact pk_us, hC.2.2.1, hC.2.2.2.1, fun i hi => hC.2.2.2.2 i (by omega)⟩, ⟨?_, fun i hi => ?_⟩, ⟨hT.1, hT.2.1, ?_, ?_⟩, ?_, ?_, ?_, ?_⟩
    · rw [va_up_self]
      exact MI_of g1 g2 (fun j hj => by rw [f2 j (by omega) hj, va_up_ne _ _ (by decide)])
    · rw [va_up_ne _ _ (by decide), va_up_self]; exact pk_us
    · rw [va_up_ne _ _ (by decide), va_up_ne _ _ (by decide)]; exact hH.2 i (by omega)
    · rw [va_up_ne _ _ (by decide), va_up_self, pk_un (by decide)]; exact hT.2.2.1
    · rw [va_up_ne _ _ (by decide), va_up_ne _ _ (by decide)]; exact hT.2.2.2
    · rw [va_up_ne _ _ (by decide), va_up_self, pk_un (by decide)]; exact hF.1
    · rw [va_up_ne _ _ (by decide), va_up_self, pk_un (by decide)]; exact hF.2.1
    · rw [va_up_ne _ _ (by decide), va_up_self, pk_un (by decide)]; exact hF.2.2.1
    · rw [va_up_ne _ _ (by decide), va_up_self, pk_un (by decide)]; exact hF.2.2.2
