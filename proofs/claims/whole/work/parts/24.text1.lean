/-! PURE PART: the text's simple calls, pipeOf. -/
theorem ch_ok : ∀ c, c < 127 → vp_nar .char (((nI c).toUInt32 % 65536).toInt32) = nI c := by decide +kernel
theorem st_clearText {L K : Mm} {P : Nat → Nat} {Hs : Nat → Mm} {S N T R M : Mm} (h : INV L K P Hs S N T R M) : ∃ (r : Int32) (T' : Mm) (M' : Mm), F_X4_clearText L K P Hs S N T R = some (r, T') ∧ F_X5_clearText M = some (r, M') ∧ INV L K P Hs S N T' R M' := by
  obtain ⟨A, kept, Ah, len, hB, hL, hM, hC, hH, hT, hF⟩ := h
  refine ⟨nI len, va_up T 2 (upd (T 2) 0 (0 : Int32)), va_up M 12 (upd (M 12) 1 (0 : Int32)), ?_, ?_, A, kept, Ah, 0, hB, hL, ?_, hC, ⟨?_, fun i hi => ?_⟩, ⟨by omega, ?_, ?_, fun i hi => by omega⟩, ?_, ?_, ?_, ?_⟩
  · show some (T 2 0, _) = _
    rw [hT.2.1]
  · show some (M 12 1, _) = _
    rw [hT.2.2.1]
  · rw [va_up_ne _ _ (by decide)]; exact hM
  · rw [va_up_self, pk_un (by decide)]; exact hH.1
  · rw [va_up_ne _ _ (by decide)]; exact hH.2 i hi
  · rw [va_up_self]; exact pk_us
  · rw [va_up_self]; exact pk_us
  · rw [va_up_self, pk_un (by decide)]; exact hF.1
  · rw [va_up_self, pk_un (by decide)]; exact hF.2.1
  · rw [va_up_self, pk_un (by decide)]; exact hF.2.2.1
  · rw [va_up_self, pk_un (by decide)]; exact hF.2.2.2
theorem st_type {L K : Mm} {P : Nat → Nat} {Hs : Nat → Mm} {S N T R M : Mm} (h : INV L K P Hs S N T R M) (x1 : Int32) : ∃ (r : Int32) (T' : Mm) (M' : Mm), F_X4_type L K P Hs S N T R x1 = some (r, T') ∧ F_X5_type M x1 = some (r, M') ∧ INV L K P Hs S N T' R M' := by
  have hI := h
  obtain ⟨A, kept, Ah, len, hB, hL, hM, hC, hH, hT, hF⟩ := h
  unfold F_X4_type F_X5_type
  rw [pc_within, b1_some, pr_in, b1_some]
  by_cases c1 : (32 : Int32) ≤ x1 ∧ x1 ≤ 126
  · rw [if_pos c1, if_neg (show ¬ (1 : Int32) = 0 by decide), if_neg (show ¬ (1 : Int32) = 0 by decide)]
    obtain ⟨c, h32, h126, rfl⟩ := rg (a := 32) (b := 126) (by omega) (by omega) c1
    have hl := hT.1
    unfold F_X2_append
    rw [hT.2.1, hT.2.2.1]
    by_cases c2 : len < 60
    · rw [if_pos (show nI len < (60 : Int32) from nI_lt (b := 60) c2 (by omega)), if_neg (show ¬ nI len = (60 : Int32) from fun z => by have := (nI_eq (a := len) (b := 60) (by omega) (by omega)).mp z; omega), ck_nI c2 (by omega), ck_nI c2 (by omega), sv_eq, sv_eq, sv_eq, sv_eq, nI_clamp (by omega), ch_ok c (by omega), b2_some]
      have t1 : va_up T 0 (upd (T 0) len (nI c)) 2 0 = nI len := by rw [va_up_ne _ _ (by decide)]; exact hT.2.1
      have t2 : va_up M 4 (upd (M 4) len (nI c)) 12 1 = nI len := by rw [va_up_ne _ _ (by decide)]; exact hT.2.2.1
      rw [t1, t2, ← nI_succ, va_up_self, va_up_self, pk_us, pk_us]
      refine ⟨_, _, _, rfl, rfl, A, kept, Ah, len + 1, hB, hL, ?_, hC, ⟨?_, fun i hi => ?_⟩, ⟨by omega, ?_, ?_, fun i hi => ?_⟩, ?_, ?_, ?_, ?_⟩
      · rw [va_up_ne _ _ (by decide), va_up_ne _ _ (by decide)]; exact hM
      · rw [va_up_self, pk_un (by decide), va_up_ne _ _ (by decide)]; exact hH.1
      · rw [va_up_ne _ _ (by decide), va_up_ne _ _ (by decide)]; exact hH.2 i hi
      · rw [va_up_self]; exact pk_us
      · rw [va_up_self]; exact pk_us
      · rw [va_up_ne _ _ (show (0 : Nat) ≠ 2 by decide), va_up_self, va_up_ne _ _ (show (4 : Nat) ≠ 12 by decide), va_up_self]
        by_cases hi2 : i = len
        · rw [hi2, pk_us, pk_us]; exact ⟨rfl, c, h32, h126, rfl⟩
        · rw [pk_un hi2, pk_un hi2]; exact hT.2.2.2 i (by omega)
      · rw [va_up_self, pk_un (by decide), va_up_ne _ _ (by decide)]; exact hF.1
      · rw [va_up_self, pk_un (by decide), va_up_ne _ _ (by decide)]; exact hF.2.1
      · rw [va_up_self, pk_un (by decide), va_up_ne _ _ (by decide)]; exact hF.2.2.1
      · rw [va_up_self, pk_un (by decide), va_up_ne _ _ (by decide)]; exact hF.2.2.2
    · have c3 : len = 60 := by omega
      rw [if_neg (show ¬ nI len < (60 : Int32) from nI_nlt (a := len) (b := 60) (by omega) (by omega)), if_pos (show nI len = (60 : Int32) by rw [c3]; rfl), b2_some]
      exact ⟨_, _, _, rfl, rfl, hI⟩
  · rw [if_neg c1, if_pos rfl, if_pos rfl]
    exact ⟨_, _, _, rfl, rfl, hI⟩
theorem st_pipeOf {L K : Mm} {P : Nat → Nat} {Hs : Nat → Mm} {S N T R M : Mm} (h : INV L K P Hs S N T R M) (x1 : Int32) (x2 : Int32) : ∃ (r : Int32), F_X4_pipeOf L K P Hs S N T R x1 x2 = some r ∧ F_X5_pipeOf M x1 x2 = some r ∧ INV L K P Hs S N T R M := by
  have hI := h
  obtain ⟨A, kept, Ah, len, hB, hL, hM, hC, hH, hT, hF⟩ := h
  have hB3 := hB.2.2.1
  unfold F_X4_pipeOf F_X5_pipeOf
  rw [pc_isPipe hL.2.1, b1_some, pm_isPipe hM.2.1, b1_some]
  by_cases c1 : (0 : Int32) ≤ x1 ∧ x1 ≤ nI (A 1 0) - 1
  · rw [if_pos c1, if_neg (show ¬ (1 : Int32) = 0 by decide), if_neg (show ¬ (1 : Int32) = 0 by decide), pc_within, b1_some, pr_in, b1_some]
    by_cases c2 : (0 : Int32) ≤ x2 ∧ x2 ≤ 5
    · rw [if_pos c2, if_neg (show ¬ (1 : Int32) = 0 by decide), if_neg (show ¬ (1 : Int32) = 0 by decide)]
      obtain ⟨k, hk, rfl⟩ := rg0 (by omega) c1
      obtain ⟨j, -, hj, rfl⟩ := rg (a := 0) (b := 5) (by omega) (by omega) c2
      unfold F_X1_partOf F_X5_pi
      rw [show (6 : Int32) = nI 6 from rfl, show (14 : Int32) = nI 14 from rfl, pk_mul, pk_mul, nI_add, nI_add, nI_add, ck_nI (by omega) (by omega), ck_nI (by omega) (by omega), nI_clamp (by omega), nI_clamp (by omega), b1_some, b1_some, hL.2.2.2 k hk j (by omega), hM.2.2.2 k hk j (by omega)]
      exact ⟨_, rfl, rfl, hI⟩
    · rw [if_neg c2, if_pos rfl, if_pos rfl]
      exact ⟨_, rfl, rfl, hI⟩
  · rw [if_neg c1, if_pos rfl, if_pos rfl]
    exact ⟨_, rfl, rfl, hI⟩
