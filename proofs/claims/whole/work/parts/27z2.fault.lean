/-! PURE PART: the whole text; fault, play. -/
theorem SO.ct {A : Lay} {len i : Nat} {T R M T' R' M' : Mm} {c : Nat → Nat} (h : SO A len i T R M T' R' M') (hT : CT T len c) : CT T' len c := ⟨by rw [h.2.1]; exact hT.1, hT.2.1, by rw [h.1]; exact hT.2.2⟩
theorem SO.rt {A : Lay} {len i : Nat} {T R M T' R' M' : Mm} {c : Nat → Nat} (h : SO A len i T R M T' R' M') (hR : RT M len c) : RT M' len c := ⟨by rw [h.2.2.2.1 1 (by decide) (by decide)]; exact hR.1, hR.2.1, by rw [h.2.2.1 4 (by decide) (by decide) (by decide)]; exact hR.2.2⟩
/-- what the reference's run over the text leaves as it was -/
def FX (M M' : Mm) : Prop := (∀ q, q ≠ 0 → q ≠ 5 → q ≠ 12 → M' q = M q) ∧ ∀ q, q ≠ 2 → q ≠ 3 → q ≠ 4 → M' 12 q = M 12 q
theorem FX.refl (M : Mm) : FX M M := ⟨fun _ _ _ _ => rfl, fun _ _ _ _ => rfl⟩
theorem FX.trans {M M1 M2 : Mm} (h : FX M M1) (h' : FX M1 M2) : FX M M2 := ⟨fun q a b d => by rw [h'.1 q a b d, h.1 q a b d], fun q a b d => by rw [h'.2 q a b d, h.2 q a b d]⟩
theorem SO.fx {A : Lay} {len i : Nat} {T R M T' R' M' : Mm} (h : SO A len i T R M T' R' M') : FX M M' := ⟨h.2.2.1, fun q a _ b => h.2.2.2.1 q a b⟩
theorem FX.rt {M M' : Mm} {len : Nat} {c : Nat → Nat} (h : FX M M') (hR : RT M len c) : RT M' len c := ⟨by rw [h.2 1 (by decide) (by decide) (by decide)]; exact hR.1, hR.2.1, by rw [h.1 4 (by decide) (by decide) (by decide)]; exact hR.2.2⟩
/-- the class's run over the text beside the reference's search for a fault -/
theorem run_f {O : Mm} {len : Nat} {c : Nat → Nat} : ∀ (r n n2 y i : Nat) (T R M : Mm) (A : Lay), y + r = 60 → r < n → r + 1 < n2 → y ≤ i → i ≤ len → LB A → LI R A → MI (M 0) A → CT T len c → RT M len c → T 2 1 = nI i → M 12 2 = nI i → T 2 3 = 0 → ∃ T' R' M', F_X2_read_25 n T R O (nI y) = some (T', R') ∧ T' 0 = T 0 ∧ T' 2 0 = T 2 0 ∧ FX M M' ∧ ((F_X5_faulty_34 n2 M (-1000004 : Int32) = F_X5_faulty_82 FU M' (-1000004 : Int32) 0 ∧ T' 2 3 = 0) ∨ (∃ b ρ, b ≤ 60 ∧ 1 ≤ ρ ∧ ρ ≤ 3 ∧ F_X5_faulty_34 n2 M (-1000004 : Int32) = F_X5_faulty_82 FU M' (nI b) 0 ∧ T' 2 3 = nI ρ ∧ T' 2 2 = nI b ∧ M' 12 3 = nI ρ ∧ (ρ ≠ 3 → T' 2 4 = M' 12 4) ∧ (ρ = 3 → M' 12 4 = (-1000004 : Int32)))) := by
  intro r
  have stop : ∀ (n n2 y i : Nat) (T R M : Mm), i = len → len ≤ 60 → M 12 1 = nI len → M 12 2 = nI i → F_X5_faulty_34 (n2 + 1) M (-1000004 : Int32) = F_X5_faulty_82 FU M (-1000004 : Int32) 0 := by
    intro n n2 y i T R M h1 h2 h3 h4
    show F_X5_faultyB_34 (F_X5_faulty_34 n2) M (-1000004 : Int32) = _
    unfold F_X5_faultyB_34
    rw [h3, h4, h1, if_pos (nI_le (Nat.le_refl _) (by omega))]
  induction r with
  | zero =>
    intro n n2 y i T R M A hy hn hn2 hyi hi hB hL hM hT hR hat hat2 h3
    obtain ⟨n, rfl⟩ : ∃ m, n = m + 1 := ⟨n - 1, by omega⟩
    obtain ⟨n2, rfl⟩ : ∃ m, n2 = m + 1 := ⟨n2 - 1, by omega⟩
    have h60 := hT.2.1
    refine ⟨T, R, M, ?_, rfl, rfl, FX.refl M, Or.inl ⟨stop n n2 y i T R M (by omega) h60 hR.1 hat2, h3⟩⟩
    show F_X2_readB_25 (F_X2_read_25 n) T R O (nI y) = _
    unfold F_X2_readB_25
    rw [show y = 60 by omega, if_pos (by decide)]
  | succ r ih =>
    intro n n2 y i T R M A hy hn hn2 hyi hi hB hL hM hT hR hat hat2 h3
    obtain ⟨n, rfl⟩ : ∃ m, n = m + 1 := ⟨n - 1, by omega⟩
    obtain ⟨n2, rfl⟩ : ∃ m, n2 = m + 1 := ⟨n2 - 1, by omega⟩
    have h60 := hT.2.1
    by_cases e : i = len
    · refine ⟨T, R, M, ?_, rfl, rfl, FX.refl M, Or.inl ⟨stop n n2 y i T R M e h60 hR.1 hat2, h3⟩⟩
      show F_X2_readB_25 (F_X2_read_25 n) T R O (nI y) = _
      unfold F_X2_readB_25
      rw [if_neg (show ¬ (60 : Int32) ≤ nI y from nI_ge (b := 60) (by omega) (by omega)), hT.1, hat, e, if_pos (nI_le (Nat.le_refl _) (by omega))]
    · obtain ⟨T1, R1, M1, s1, s2⟩ := setting hB hL hM hT hR hat hat2 (by omega)
      have hT1 := s2.ct hT
      have hR1 := s2.rt hR
      have hF1 := s2.fx
      have hs2 := s2
      obtain ⟨q1, q2, q3, q4, q5⟩ := s2
      show ∃ T' R' M', F_X2_readB_25 (F_X2_read_25 n) T R O (nI y) = some (T', R') ∧ _ ∧ _ ∧ _ ∧ ((F_X5_faultyB_34 (F_X5_faulty_34 n2) M (-1000004 : Int32) = _ ∧ _) ∨ (∃ b ρ, b ≤ 60 ∧ 1 ≤ ρ ∧ ρ ≤ 3 ∧ F_X5_faultyB_34 (F_X5_faulty_34 n2) M (-1000004 : Int32) = _ ∧ _))
      unfold F_X2_readB_25 F_X5_faultyB_34
      rw [if_neg (show ¬ (60 : Int32) ≤ nI y from nI_ge (b := 60) (by omega) (by omega)), hT.1, hat, if_neg (nI_ge (show i < len by omega) (by omega)), h3, if_pos rfl, s1, b2_some, hR.1, hat2, if_neg (nI_ge (show i < len by omega) (by omega)), if_pos rfl]
      rcases q5 with ⟨d1, d2, d3, i', A', d4, d5, d6, d7, d8, d9, d10⟩ | ⟨ρ, d1, d2, d3, d4, d5, d6, d7⟩
      · have hX : FX M1 (va_up M1 12 (upd (M1 12) 3 0)) := ⟨fun q a b d => va_up_ne _ _ d, fun q a b d => by rw [va_up_self, pk_un b]⟩
        obtain ⟨T', R', M', g1, g2, g3, g4, g5⟩ := ih n n2 (y + 1) i' T1 R1 (va_up M1 12 (upd (M1 12) 3 0)) A' (by omega) (by omega) (by omega) (by omega) d5 d8 d9 (by rw [va_up_ne _ _ (by decide)]; exact d10) hT1 (hX.rt hR1) d6 (by rw [va_up_self, pk_un (by decide)]; exact d7) (by rw [d2]; exact h3)
        have er : (b2 (F_X5_doesNext M) fun u3 M4 => (sv (va_up M4 12 (upd (M4 12) 3 u3)) fun M6 => (if (M6 12 3) ≤ 0 then F_X5_faulty_34 n2 M6 (-1000004 : Int32) else F_X5_faulty_34 n2 M6 (nI i)))) = F_X5_faulty_34 n2 (va_up M1 12 (upd (M1 12) 3 0)) (-1000004 : Int32) := by
          rw [d1, b2_some, sv_eq, va_up_self, pk_us, if_pos (by decide)]
        rw [er, ← nI_succ]
        refine ⟨T', R', M', g1, by rw [g2, q1], by rw [g3, q2, hT.1], (hF1.trans hX).trans g4, g5⟩
      · have hX : FX M1 (va_up M1 12 (upd (M1 12) 3 (nI ρ))) := ⟨fun q a b d => va_up_ne _ _ d, fun q a b d => by rw [va_up_self, pk_un b]⟩
        obtain ⟨n2, rfl⟩ : ∃ m, n2 = m + 1 := ⟨n2 - 1, by omega⟩
        have e82 : F_X5_faulty_34 (n2 + 1) (va_up M1 12 (upd (M1 12) 3 (nI ρ))) (nI i) = F_X5_faulty_82 FU (va_up M1 12 (upd (M1 12) 3 (nI ρ))) (nI i) 0 := by
          show F_X5_faultyB_34 (F_X5_faulty_34 n2) _ (nI i) = _
          unfold F_X5_faultyB_34
          split
          · rfl
          · rw [if_neg (show ¬ nI i = (-1000004 : Int32) from fun z => by
              have h1 := nI_pos' (n := i) (by omega)
              rw [z] at h1
              exact absurd h1 (by decide))]
        have er : (b2 (F_X5_doesNext M) fun u3 M4 => (sv (va_up M4 12 (upd (M4 12) 3 u3)) fun M6 => (if (M6 12 3) ≤ 0 then F_X5_faulty_34 (n2 + 1) M6 (-1000004 : Int32) else F_X5_faulty_34 (n2 + 1) M6 (nI i)))) = F_X5_faulty_82 FU (va_up M1 12 (upd (M1 12) 3 (nI ρ))) (nI i) 0 := by
          rw [d3, b2_some, sv_eq, va_up_self, pk_us, if_neg (nI_nle (by omega) (by omega)), e82]
        have ec : F_X2_read_25 n T1 R1 O (nI y + 1) = some (T1, R1) := by
          obtain ⟨n, rfl⟩ : ∃ m, n = m + 1 := ⟨n - 1, by omega⟩
          show F_X2_readB_25 (F_X2_read_25 n) T1 R1 O (nI y + 1) = _
          unfold F_X2_readB_25
          rw [← nI_succ]
          split
          · rfl
          · split
            · rfl
            · rw [if_neg (show ¬ T1 2 3 = 0 by rw [d4]; exact nI_ne0 (by omega) (by omega))]
        rw [er, ec]
        refine ⟨T1, R1, _, rfl, q1, by rw [q2, hT.1], hF1.trans hX, Or.inr ⟨i, ρ, by omega, d1, d2, rfl, d4, d5, by rw [va_up_self, pk_us], fun z => ?_, fun z => ?_⟩⟩
        · rw [va_up_self, pk_un (by decide)]; exact d6 z
        · rw [va_up_self, pk_un (by decide)]; exact d7 z
/-- the same run of the class beside the reference's doing -/
theorem run_p {O : Mm} {len : Nat} {c : Nat → Nat} : ∀ (r n n2 y i s : Nat) (T R M T' R' : Mm) (A : Lay), y + r = 60 → r < n → r < n2 → y ≤ i → i ≤ len → s ≤ y → LB A → LI R A → MI (M 0) A → CT T len c → RT M len c → T 2 1 = nI i → M 12 2 = nI i → T 2 3 = 0 → T 2 5 = nI s → F_X2_read_25 n T R O (nI y) = some (T', R') → T' 2 3 = 0 → ∃ M' s' A', s' ≤ 60 ∧ F_X5_play_23 n2 M (nI s) = (b2 (F_X5_acted M' (nI s')) fun u2 M3 => some (u2, M3)) ∧ T' 2 5 = nI s' ∧ FX M M' ∧ LB A' ∧ LI R' A' ∧ MI (M' 0) A' := by
  intro r
  have stop : ∀ (n2 i s : Nat) (M : Mm), i = len → len ≤ 60 → M 12 1 = nI len → M 12 2 = nI i → F_X5_play_23 (n2 + 1) M (nI s) = (b2 (F_X5_acted M (nI s)) fun u2 M3 => some (u2, M3)) := by
    intro n2 i s M h1 h2 h3 h4
    show F_X5_playB_23 (F_X5_play_23 n2) M (nI s) = _
    unfold F_X5_playB_23
    rw [h3, h4, h1, if_pos (nI_le (Nat.le_refl _) (by omega))]
  induction r with
  | zero =>
    intro n n2 y i s T R M T' R' A hy hn hn2 hyi hi hsy hB hL hM hT hR hat hat2 h3 h5 hrun hok
    obtain ⟨n, rfl⟩ : ∃ m, n = m + 1 := ⟨n - 1, by omega⟩
    obtain ⟨n2, rfl⟩ : ∃ m, n2 = m + 1 := ⟨n2 - 1, by omega⟩
    have h60 := hT.2.1
    have e1 : F_X2_read_25 (n + 1) T R O (nI y) = some (T, R) := by
      show F_X2_readB_25 (F_X2_read_25 n) T R O (nI y) = _
      unfold F_X2_readB_25
      rw [show y = 60 by omega, if_pos (by decide)]
    rw [e1] at hrun
    cases hrun
    exact ⟨M, s, A, by omega, stop n2 i s M (by omega) h60 hR.1 hat2, h5, FX.refl M, hB, hL, hM⟩
  | succ r ih =>
    intro n n2 y i s T R M T' R' A hy hn hn2 hyi hi hsy hB hL hM hT hR hat hat2 h3 h5 hrun hok
    obtain ⟨n, rfl⟩ : ∃ m, n = m + 1 := ⟨n - 1, by omega⟩
    obtain ⟨n2, rfl⟩ : ∃ m, n2 = m + 1 := ⟨n2 - 1, by omega⟩
    have h60 := hT.2.1
    by_cases e : i = len
    · have e1 : F_X2_read_25 (n + 1) T R O (nI y) = some (T, R) := by
        show F_X2_readB_25 (F_X2_read_25 n) T R O (nI y) = _
        unfold F_X2_readB_25
        rw [if_neg (show ¬ (60 : Int32) ≤ nI y from nI_ge (b := 60) (by omega) (by omega)), hT.1, hat, e, if_pos (nI_le (Nat.le_refl _) (by omega))]
      rw [e1] at hrun
      cases hrun
      exact ⟨M, s, A, by omega, stop n2 i s M e h60 hR.1 hat2, h5, FX.refl M, hB, hL, hM⟩
    · obtain ⟨T1, R1, M1, s1, s2⟩ := setting hB hL hM hT hR hat hat2 (by omega)
      have hT1 := s2.ct hT
      have hR1 := s2.rt hR
      have hF1 := s2.fx
      obtain ⟨q1, q2, q3, q4, q5⟩ := s2
      have e1 : F_X2_read_25 (n + 1) T R O (nI y) = F_X2_read_25 n T1 R1 O (nI (y + 1)) := by
        show F_X2_readB_25 (F_X2_read_25 n) T R O (nI y) = _
        unfold F_X2_readB_25
        rw [if_neg (show ¬ (60 : Int32) ≤ nI y from nI_ge (b := 60) (by omega) (by omega)), hT.1, hat, if_neg (nI_ge (show i < len by omega) (by omega)), h3, if_pos rfl, s1, b2_some, nI_succ]
      rw [e1] at hrun
      rcases q5 with ⟨d1, d2, d3, i', A', d4, d5, d6, d7, d8, d9, d10⟩ | ⟨ρ, d1, d2, d3, d4, d5, d6, d7⟩
      · obtain ⟨M', s', A'', g1, g2, g3, g4, g5, g6, g7⟩ := ih n n2 (y + 1) i' (s + 1) T1 R1 M1 T' R' A' (by omega) (by omega) (by omega) (by omega) d5 (by omega) d8 d9 d10 hT1 hR1 d6 d7 (by rw [d2]; exact h3) (by rw [d3, h5, nI_succ]) hrun hok
        refine ⟨M', s', A'', g1, ?_, g3, hF1.trans g4, g5, g6, g7⟩
        show F_X5_playB_23 (F_X5_play_23 n2) M (nI s) = _
        unfold F_X5_playB_23
        rw [hR.1, hat2, if_neg (nI_ge (show i < len by omega) (by omega)), d1, b2_some, if_pos rfl, ← nI_succ]
        exact g2
      · exfalso
        have ec : F_X2_read_25 n T1 R1 O (nI (y + 1)) = some (T1, R1) := by
          obtain ⟨n, rfl⟩ : ∃ m, n = m + 1 := ⟨n - 1, by omega⟩
          show F_X2_readB_25 (F_X2_read_25 n) T1 R1 O (nI (y + 1)) = _
          unfold F_X2_readB_25
          split
          · rfl
          · split
            · rfl
            · rw [if_neg (show ¬ T1 2 3 = 0 by rw [d4]; exact nI_ne0 (by omega) (by omega))]
        rw [ec] at hrun
        cases hrun
        rw [d4] at hok
        exact absurd hok (nI_ne0 (by omega) (by omega))
/-- the reference puts its layout back, and aside -/
theorem pm_82 (x : Int32) : ∀ (r n k : Nat) (M : Mm), k + r = 74 → r < n → ∃ g : Nat → Int32, F_X5_faulty_82 n M x (nI k) = some (x, va_up M 0 g) ∧ (∀ j, k ≤ j → j < 74 → g j = M 3 j) ∧ ∀ j, j < k → g j = M 0 j
  | r, 0, k, M, _, h => by omega
  | 0, n + 1, k, M, hk, h => by
    have hk : k = 74 := by omega
    subst hk
    refine ⟨M 0, ?_, fun j h1 h2 => by omega, fun _ _ => rfl⟩
    have e : va_up M 0 (M 0) = M := by funext q; unfold va_up; by_cases h : q = 0; rw [if_pos h, h]; rw [if_neg h]
    rw [e]
    show F_X5_faultyB_82 (F_X5_faulty_82 n) M x (nI 74) = _
    unfold F_X5_faultyB_82
    rw [if_pos (by decide)]
  | r + 1, n + 1, k, M, hk, h => by
    show ∃ g, F_X5_faultyB_82 (F_X5_faulty_82 n) M x (nI k) = _ ∧ _
    unfold F_X5_faultyB_82
    rw [if_neg (show ¬ (74 : Int32) ≤ nI k from nI_ge (b := 74) (by omega) (by omega)), ck_nI (by omega) (by omega), ck_nI (by omega) (by omega), sv_eq, nI_clamp (by omega), ← nI_succ]
    obtain ⟨g, h1, h2, h3⟩ := pm_82 x r n (k + 1) (va_up M 0 (upd (M 0) k (M 3 k))) (by omega) (by omega)
    refine ⟨g, by rw [h1, bx_uu], fun j hj hj2 => ?_, fun j hj => ?_⟩
    · by_cases c : j = k
      · rw [c, h3 k (by omega), va_up_self, pk_us]
      · rw [h2 j (by omega) hj2, va_up_ne _ _ (by decide)]
    · rw [h3 j (by omega), va_up_self, pk_un (by omega)]
theorem pm_f2 : ∀ (r n k : Nat) (M : Mm) (x : Int32), k + r = 74 → r < n → (∀ j, j < k → M 3 j = M 0 j) → ∃ g : Nat → Int32, F_X5_faulty_2 n M (nI k) = F_X5_faulty_34 FU (va_up (va_up M 3 g) 12 (upd (M 12) 2 0)) (-1000004 : Int32) ∧ ∀ j, j < 74 → g j = M 0 j
  | r, 0, k, M, x, _, h, _ => by omega
  | 0, n + 1, k, M, x, hk, h, hM => by
    have hk : k = 74 := by omega
    subst hk
    refine ⟨M 3, ?_, hM⟩
    have e : va_up M 3 (M 3) = M := by funext q; unfold va_up; by_cases h : q = 3; rw [if_pos h, h]; rw [if_neg h]
    rw [e]
    show F_X5_faultyB_2 (F_X5_faulty_2 n) M (nI 74) = _
    unfold F_X5_faultyB_2
    rw [if_pos (by decide), sv_eq]
  | r + 1, n + 1, k, M, x, hk, h, hM => by
    show ∃ g, F_X5_faultyB_2 (F_X5_faulty_2 n) M (nI k) = _ ∧ _
    unfold F_X5_faultyB_2
    rw [if_neg (show ¬ (74 : Int32) ≤ nI k from nI_ge (b := 74) (by omega) (by omega)), ck_nI (by omega) (by omega), ck_nI (by omega) (by omega), sv_eq, nI_clamp (by omega), ← nI_succ]
    obtain ⟨g, h1, h2⟩ := pm_f2 r n (k + 1) (va_up M 3 (upd (M 3) k (M 0 k))) x (by omega) (by omega) (fun j hj => by
      rw [va_up_self, va_up_ne _ _ (by decide)]
      by_cases c : j = k
      · rw [c, pk_us]
      · rw [pk_un c]; exact hM j (by omega))
    refine ⟨g, by rw [h1, bx_uu, va_up_ne _ _ (show (12 : Nat) ≠ 3 by decide)], fun j hj => by rw [h2 j hj, va_up_ne _ _ (by decide)]⟩
/-- the class's reading beside the reference's search for a fault -/
theorem both {T R M L : Mm} {A : Lay} {len : Nat} {c : Nat → Nat} (hB : LB A) (hL : LI L A) (hM : MI (M 0) A) (hT : CT T len c) (hR : RT M len c) : ∃ R1 T' R' M', F_X1_copyFrom R L = some R1 ∧ LI R1 A ∧ F_X2_read T R L = some (T', R') ∧ (∃ T7 : Mm, CT T7 len c ∧ T7 2 1 = nI 0 ∧ T7 2 3 = 0 ∧ T7 2 5 = nI 0 ∧ F_X2_read_25 FU T7 R1 L (nI 0) = some (T', R')) ∧ T' 0 = T 0 ∧ T' 2 0 = T 2 0 ∧ MI (M' 0) A ∧ (∀ q, q ≠ 0 → q ≠ 3 → q ≠ 5 → q ≠ 12 → M' q = M q) ∧ (∀ q, q ≠ 2 → q ≠ 3 → q ≠ 4 → M' 12 q = M 12 q) ∧ ((F_X5_faulty M = some ((-1000004 : Int32), M') ∧ T' 2 3 = 0) ∨ (∃ b ρ, b ≤ 60 ∧ 1 ≤ ρ ∧ ρ ≤ 3 ∧ F_X5_faulty M = some (nI b, M') ∧ T' 2 3 = nI ρ ∧ T' 2 2 = nI b ∧ M' 12 3 = nI ρ ∧ (ρ ≠ 3 → T' 2 4 = M' 12 4) ∧ (ρ = 3 → M' 12 4 = (-1000004 : Int32)))) := by
  obtain ⟨R1, r1, -⟩ := pc_copyFrom R L
  have hL1 := LI_copy hB hL r1
  obtain ⟨g, g1, g2⟩ := pm_f2 74 FU 0 M 0 (by omega) (by rw [FU_eq]; omega) (fun j hj => by omega)
  unfold F_X2_read F_X5_faulty
  rw [r1, b1_some, sv_eq, sv_eq, sv_eq, show (0 : Int32) = nI 0 from rfl, g1, bx_uu, bx_uu, va_up_self, va_up_self]
  have t0 : (va_up T 2 (upd (upd (upd (T 2) 1 (nI 0)) 3 (nI 0)) 5 (nI 0))) 0 = T 0 := va_up_ne _ _ (by decide)
  have t2 : (va_up T 2 (upd (upd (upd (T 2) 1 (nI 0)) 3 (nI 0)) 5 (nI 0))) 2 = upd (upd (upd (T 2) 1 (nI 0)) 3 (nI 0)) 5 (nI 0) := va_up_self _ _ _
  have hT7 : CT (va_up T 2 (upd (upd (upd (T 2) 1 (nI 0)) 3 (nI 0)) 5 (nI 0))) len c := ⟨by rw [t2, pk_un (by decide), pk_un (by decide), pk_un (by decide)]; exact hT.1, hT.2.1, by rw [t0]; exact hT.2.2⟩
  have hat : (va_up T 2 (upd (upd (upd (T 2) 1 (nI 0)) 3 (nI 0)) 5 (nI 0))) 2 1 = nI 0 := by rw [t2, pk_un (by decide), pk_un (by decide), pk_us]
  have h3 : (va_up T 2 (upd (upd (upd (T 2) 1 (nI 0)) 3 (nI 0)) 5 (nI 0))) 2 3 = 0 := by rw [t2, pk_un (by decide), pk_us]; rfl
  have h5 : (va_up T 2 (upd (upd (upd (T 2) 1 (nI 0)) 3 (nI 0)) 5 (nI 0))) 2 5 = nI 0 := by rw [t2, pk_us]
  have hX : ∀ x, FX (va_up M 3 g) (va_up (va_up M 3 g) 12 (upd (M 12) 2 x)) := fun x => ⟨fun q a b d => va_up_ne _ _ d, fun q a b d => by rw [va_up_self, pk_un a, va_up_ne _ _ (by decide)]⟩
  have hRg : RT (va_up M 3 g) len c := ⟨by rw [va_up_ne _ _ (by decide)]; exact hR.1, hR.2.1, by rw [va_up_ne _ _ (by decide)]; exact hR.2.2⟩
  obtain ⟨T', R', M1, j1, j2, j3, j4, j5⟩ := run_f (O := L) (len := len) (c := c) 60 FU FU 0 0 (va_up T 2 (upd (upd (upd (T 2) 1 (nI 0)) 3 (nI 0)) 5 (nI 0))) R1 (va_up (va_up M 3 g) 12 (upd (M 12) 2 (nI 0))) A (by omega) (by rw [FU_eq]; omega) (by rw [FU_eq]; omega) (by omega) (by omega) hB hL1 (by rw [va_up_ne _ _ (by decide), va_up_ne _ _ (by decide)]; exact hM) hT7 ((hX _).rt hRg) hat (by rw [va_up_self, pk_us]) h3
  have fin : ∀ x, ∃ M', F_X5_faulty_82 FU M1 x (nI 0) = some (x, M') ∧ MI (M' 0) A ∧ (∀ q, q ≠ 0 → q ≠ 3 → q ≠ 5 → q ≠ 12 → M' q = M q) ∧ (∀ q, q ≠ 2 → q ≠ 3 → q ≠ 4 → M' 12 q = M 12 q) ∧ M' 12 = M1 12 := by
    intro x
    obtain ⟨g', k1, k2, -⟩ := pm_82 x 74 FU 0 M1 (by omega) (by rw [FU_eq]; omega)
    refine ⟨_, k1, ?_, fun q a b d e => ?_, fun q a b d => ?_, va_up_ne _ _ (by decide)⟩
    · rw [va_up_self]
      refine MI_of hB hM (fun j hj => ?_)
      rw [k2 j (by omega) hj, j4.1 3 (by decide) (by decide) (by decide), va_up_ne _ _ (by decide), va_up_self, g2 j hj]
    · rw [va_up_ne _ _ a, j4.1 q a d e, va_up_ne _ _ e, va_up_ne _ _ b]
    · rw [va_up_ne _ _ (by decide), j4.2 q a b d, va_up_self, pk_un a]
  rw [show (0 : Int32) = nI 0 from rfl] at j5
  rcases j5 with ⟨k1, k2⟩ | ⟨b, ρ, k0, k1, k2, k3, k4, k5, k6, k7, k8⟩
  · obtain ⟨M', m1, m2, m3, m4, m5⟩ := fin (-1000004 : Int32)
    refine ⟨R1, T', R', M', rfl, hL1, j1, ⟨_, hT7, hat, h3, h5, j1⟩, by rw [j2, t0], ?_, m2, m3, m4, Or.inl ⟨by rw [show (0 : Int32) = nI 0 from rfl, k1, m1], k2⟩⟩
    rw [j3, t2, pk_un (by decide), pk_un (by decide), pk_un (by decide)]
  · obtain ⟨M', m1, m2, m3, m4, m5⟩ := fin (nI b)
    refine ⟨R1, T', R', M', rfl, hL1, j1, ⟨_, hT7, hat, h3, h5, j1⟩, by rw [j2, t0], ?_, m2, m3, m4, Or.inr ⟨b, ρ, k0, k1, k2, by rw [show (0 : Int32) = nI 0 from rfl, k3, m1], k4, k5, by rw [m5]; exact k6, by rw [m5]; exact k7, by rw [m5]; exact k8⟩⟩
    rw [j3, t2, pk_un (by decide), pk_un (by decide), pk_un (by decide)]
/-- the text as both sides have it -/
theorem texts {T M : Mm} {len : Nat} (h : TI len T M) : CT T len (fun i => (M 4 i).toNatClampNeg) ∧ RT M len (fun i => (M 4 i).toNatClampNeg) := by
  have key : ∀ i, i < len → M 4 i = nI (M 4 i).toNatClampNeg ∧ 32 ≤ (M 4 i).toNatClampNeg ∧ (M 4 i).toNatClampNeg ≤ 126 := by
    intro i hi
    obtain ⟨-, d, d1, d2, d3⟩ := h.2.2.2 i hi
    rw [d3, nI_clamp (by omega)]
    exact ⟨rfl, d1, d2⟩
  refine ⟨⟨h.2.1, h.1, fun i hi => ?_⟩, ⟨h.2.2.1, h.1, fun i hi => key i hi⟩⟩
  rw [(h.2.2.2 i hi).1]
  exact key i hi
theorem INV_text {L K : Mm} {P : Nat → Nat} {Hs : Nat → Mm} {S N T R M : Mm} {A : Lay} {kept : Nat} {Ah : Nat → Lay} {len : Nat} {T' R' M' : Mm} (hB : LB A) (hL : LI L A) (hC : HC kept Ah K P Hs) (hH : HM kept Ah M) (hT : TI len T M) (hF : FI M) (h0 : T' 0 = T 0) (h20 : T' 2 0 = T 2 0) (hM' : MI (M' 0) A) (hq : ∀ q, q ≠ 0 → q ≠ 3 → q ≠ 5 → q ≠ 12 → M' q = M q) (h12 : ∀ q, q ≠ 2 → q ≠ 3 → q ≠ 4 → M' 12 q = M 12 q) : INV L K P Hs S N T' R' M' := by
  refine ⟨A, kept, Ah, len, hB, hL, hM', hC, ⟨by rw [h12 0 (by decide) (by decide) (by decide)]; exact hH.1, fun i hi => ?_⟩, ⟨hT.1, by rw [h20]; exact hT.2.1, by rw [h12 1 (by decide) (by decide) (by decide)]; exact hT.2.2.1, by rw [h0, hq 4 (by decide) (by decide) (by decide) (by decide)]; exact hT.2.2.2⟩, ⟨?_, ?_, ?_, ?_⟩⟩
  · rw [hq 1 (by decide) (by decide) (by decide) (by decide)]; exact hH.2 i hi
  · rw [h12 7 (by decide) (by decide) (by decide)]; exact hF.1
  · rw [h12 8 (by decide) (by decide) (by decide)]; exact hF.2.1
  · rw [h12 9 (by decide) (by decide) (by decide)]; exact hF.2.2.1
  · rw [h12 10 (by decide) (by decide) (by decide)]; exact hF.2.2.2
theorem nI_nf {n : Nat} (h : n < 2 ^ 31) : ¬ nI n = (-1000004 : Int32) := by
  intro z
  have h1 := nI_pos' h
  rw [z] at h1
  exact absurd h1 (by decide)
theorem st_fault {L K : Mm} {P : Nat → Nat} {Hs : Nat → Mm} {S N T R M : Mm} (h : INV L K P Hs S N T R M) (x1 : Int32) : ∃ (r : Int32) (T' : Mm) (R' : Mm) (M' : Mm), F_X4_fault L K P Hs S N T R x1 = some (r, T', R') ∧ F_X5_fault M x1 = some (r, M') ∧ INV L K P Hs S N T' R' M' := by
  have hI := h
  obtain ⟨A, kept, Ah, len, hB, hL, hM, hC, hH, hT, hF⟩ := h
  unfold F_X4_fault F_X5_fault
  rw [pc_within, b1_some, pr_in, b1_some]
  by_cases c1 : (0 : Int32) ≤ x1 ∧ x1 ≤ 2
  · rw [if_pos c1, if_neg (show ¬ (1 : Int32) = 0 by decide), if_neg (show ¬ (1 : Int32) = 0 by decide)]
    obtain ⟨w, -, hw, rfl⟩ := rg (a := 0) (b := 2) (by omega) (by omega) c1
    obtain ⟨hT1, hR1⟩ := texts hT
    obtain ⟨R1, T', R', M', r1, r2, g1, -, g2, g3, g4, g5, g6, g7⟩ := both (R := R) hB hL hM hT1 hR1
    have hInv := INV_text (S := S) (N := N) (R := R) (R' := R') hB hL hC hH hT hF g2 g3 g4 g5 g6
    rw [g1, b2_some]
    rcases g7 with ⟨k1, k2⟩ | ⟨b, ρ, k0, k1, k2, k3, k4, k5, k6, k7, k8⟩
    · rw [k1, b2_some, k2, if_pos rfl, if_pos rfl]
      exact ⟨_, _, _, _, rfl, rfl, hInv⟩
    · have nb : ¬ nI b = (-1000004 : Int32) := nI_nf (by omega)
      rw [k3, b2_some, k4, if_neg (nI_ne0 (by omega) (by omega)), if_neg nb]
      unfold F_X2_faultPart
      rcases (show w = 0 ∨ w = 1 ∨ w = 2 by omega) with rfl | rfl | rfl
      · rw [if_pos (show nI 0 = (0 : Int32) from rfl), if_neg (show ¬ nI 0 = (2 : Int32) by decide), if_pos (show nI 0 = (0 : Int32) from rfl), b1_some, k5]
        by_cases c3 : nI ρ = (3 : Int32)
        · rw [if_pos c3]; exact ⟨_, _, _, _, rfl, rfl, hInv⟩
        · rw [if_neg c3]; exact ⟨_, _, _, _, rfl, rfl, hInv⟩
      · rw [if_neg (show ¬ nI 1 = (0 : Int32) by decide), if_pos (show nI 1 = (1 : Int32) from rfl), if_neg (show ¬ nI 1 = (2 : Int32) by decide), if_neg (show ¬ nI 1 = (0 : Int32) by decide), if_pos (show nI 1 = (1 : Int32) from rfl), b1_some, k4, k6]
        by_cases c3 : nI ρ = (3 : Int32)
        · rw [if_pos c3]; exact ⟨_, _, _, _, rfl, rfl, hInv⟩
        · rw [if_neg c3]; exact ⟨_, _, _, _, rfl, rfl, hInv⟩
      · rw [if_neg (show ¬ nI 2 = (0 : Int32) by decide), if_neg (show ¬ nI 2 = (1 : Int32) by decide), if_pos (show nI 2 = (2 : Int32) from rfl), if_neg (show ¬ nI 2 = (0 : Int32) by decide), if_neg (show ¬ nI 2 = (1 : Int32) by decide), b1_some]
        by_cases c3 : ρ = 3
        · rw [if_pos (by rw [c3]; rfl), k8 c3]; exact ⟨_, _, _, _, rfl, rfl, hInv⟩
        · rw [if_neg (show ¬ nI ρ = (3 : Int32) from fun z => c3 ((nI_eq (a := ρ) (b := 3) (by omega) (by omega)).mp z)), k7 c3]; exact ⟨_, _, _, _, rfl, rfl, hInv⟩
  · rw [if_neg c1, if_pos rfl, if_pos rfl]
    exact ⟨_, _, _, _, rfl, rfl, hI⟩
theorem st_play {L K : Mm} {P : Nat → Nat} {Hs : Nat → Mm} {S N T R M : Mm} (h : INV L K P Hs S N T R M) : ∃ (r : Int32) (L' : Mm) (K' : Mm) (P' : Nat → Nat) (Hs' : Nat → Mm) (T' : Mm) (R' : Mm) (M' : Mm), F_X4_play L K P Hs S N T R = some (r, L', K', P', Hs', T', R') ∧ F_X5_play M = some (r, M') ∧ INV L' K' P' Hs' S N T' R' M' := by
  obtain ⟨A, kept, Ah, len, hB, hL, hM, hC, hH, hT, hF⟩ := h
  unfold F_X4_play F_X5_play
  obtain ⟨hT1, hR1⟩ := texts hT
  obtain ⟨R1, T', R', M', r1, r2, g1, ⟨T7, t1, t2, t3, t5, t6⟩, g2, g3, g4, g5, g6, g7⟩ := both (R := R) hB hL hM hT1 hR1
  have hH' : HM kept Ah M' := ⟨by rw [g6 0 (by decide) (by decide) (by decide)]; exact hH.1, fun i hi => by rw [g5 1 (by decide) (by decide) (by decide) (by decide)]; exact hH.2 i hi⟩
  have hF' : FI M' := ⟨by rw [g6 7 (by decide) (by decide) (by decide)]; exact hF.1, by rw [g6 8 (by decide) (by decide) (by decide)]; exact hF.2.1, by rw [g6 9 (by decide) (by decide) (by decide)]; exact hF.2.2.1, by rw [g6 10 (by decide) (by decide) (by decide)]; exact hF.2.2.2⟩
  have hT' : TI len T' M' := ⟨hT.1, by rw [g3]; exact hT.2.1, by rw [g6 1 (by decide) (by decide) (by decide)]; exact hT.2.2.1, by rw [g2, g5 4 (by decide) (by decide) (by decide) (by decide)]; exact hT.2.2.2⟩
  rw [g1, b2_some]
  rcases g7 with ⟨k1, k2⟩ | ⟨b, ρ, k0, k1, k2, k3, k4, k5, k6, k7, k8⟩
  · rw [k1, b2_some, k2, if_pos rfl, if_pos rfl]
    obtain ⟨gk, e1, e2⟩ := pr_keeps M'
    obtain ⟨K', P', Hs', k3, hC'⟩ := pc_keep hC hB hL
    rw [e1, b1_some, k3, b3_some, sv_eq]
    have n12 : (va_up M' 2 gk) 12 = M' 12 := va_up_ne _ _ (by decide)
    rw [n12, show (0 : Int32) = nI 0 from rfl]
    have hR7 : RT (va_up (va_up M' 2 gk) 12 (upd (M' 12) 2 (nI 0))) len (fun i => (M 4 i).toNatClampNeg) := ⟨by rw [va_up_self, pk_un (by decide), g6 1 (by decide) (by decide) (by decide)]; exact hR1.1, hR1.2.1, by rw [va_up_ne _ _ (by decide), va_up_ne _ _ (by decide), g5 4 (by decide) (by decide) (by decide) (by decide)]; exact hR1.2.2⟩
    obtain ⟨M8, s', B, p1, p2, p3, p4, p5, p6, p7⟩ := run_p (O := L) 60 FU FU 0 0 0 T7 R1 (va_up (va_up M' 2 gk) 12 (upd (M' 12) 2 (nI 0))) T' R' A (by omega) (by rw [FU_eq]; omega) (by rw [FU_eq]; omega) (by omega) (by omega) (by omega) hB r2 (by rw [va_up_ne _ _ (by decide), va_up_ne _ _ (by decide)]; exact g4) t1 hR7 t2 (by rw [va_up_self, pk_us]) t3 t5 t6 k2
    have hH8 : HM kept Ah M8 := ⟨by rw [p4.2 0 (by decide) (by decide) (by decide), va_up_self, pk_un (by decide)]; exact hH'.1, fun i hi => by rw [p4.1 1 (by decide) (by decide) (by decide), va_up_ne _ _ (by decide), va_up_ne _ _ (by decide)]; exact hH'.2 i hi⟩
    have hG : MI (M8 2) A := by
      rw [p4.1 2 (by decide) (by decide) (by decide), va_up_ne _ _ (by decide), va_up_self]
      exact MI_of hB g4 e2
    obtain ⟨M9, a1, a2, a3, a4⟩ := pr_acted hC.1 hH8 hB hG (nI_ninv (r := s') (by omega))
    obtain ⟨L', l1, -⟩ := pc_copyFrom L R'
    have hL' := LI_copy p5 p6 l1
    rw [p2, a1, b2_some, l1, b1_some, p3]
    refine ⟨_, _, _, _, _, _, _, _, rfl, rfl, B, nk kept, nA kept Ah A, len, p5, hL', by rw [a3 0 (by decide) (by decide)]; exact p7, hC', a2, ⟨hT.1, hT'.2.1, ?_, ?_⟩, ⟨?_, ?_, ?_, ?_⟩⟩
    · rw [a4 1 (by decide), p4.2 1 (by decide) (by decide) (by decide), va_up_self, pk_un (by decide)]; exact hT'.2.2.1
    · rw [a3 4 (by decide) (by decide), p4.1 4 (by decide) (by decide) (by decide), va_up_ne _ _ (by decide), va_up_ne _ _ (by decide)]; exact hT'.2.2.2
    · rw [a4 7 (by decide), p4.2 7 (by decide) (by decide) (by decide), va_up_self, pk_un (by decide)]; exact hF'.1
    · rw [a4 8 (by decide), p4.2 8 (by decide) (by decide) (by decide), va_up_self, pk_un (by decide)]; exact hF'.2.1
    · rw [a4 9 (by decide), p4.2 9 (by decide) (by decide) (by decide), va_up_self, pk_un (by decide)]; exact hF'.2.2.1
    · rw [a4 10 (by decide), p4.2 10 (by decide) (by decide) (by decide), va_up_self, pk_un (by decide)]; exact hF'.2.2.2
  · rw [k3, b2_some, k4, if_neg (nI_ne0 (by omega) (by omega)), if_neg (nI_nf (by omega))]
    exact ⟨_, _, _, _, _, _, _, _, rfl, rfl, A, kept, Ah, len, hB, hL, g4, hC, hH', hT', hF'⟩
