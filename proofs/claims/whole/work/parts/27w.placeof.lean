/-! PURE PART: placeOf. -/
theorem sets_5 {L M : Mm} {A : Lay} (hB : LB A) (hL : LI L A) (hM : MI (M 0) A) {j p : Nat} (hj : j < 6) : ∀ (r n n2 k : Nat) (z : Int32), k + r = A 1 0 → r < n → r < n2 → ∃ z', F_X1_pipesWith_5 n L (nI j) (nI p) z (nI k) = some z' ∧ F_X5_pipesOf_5 n2 M (nI p) (nI j) z (nI k) = some z' := by
  have hm := hB.2.2.1
  intro r
  induction r with
  | zero =>
    intro n n2 k z hk hn hn2
    obtain ⟨n, rfl⟩ : ∃ m, n = m + 1 := ⟨n - 1, by omega⟩
    obtain ⟨n2, rfl⟩ : ∃ m, n2 = m + 1 := ⟨n2 - 1, by omega⟩
    have e : k = A 1 0 := by omega
    show ∃ z', F_X1_pipesWithB_5 (F_X1_pipesWith_5 n) L (nI j) (nI p) z (nI k) = some z' ∧ F_X5_pipesOfB_5 (F_X5_pipesOf_5 n2) M (nI p) (nI j) z (nI k) = some z'
    unfold F_X1_pipesWithB_5 F_X5_pipesOfB_5
    rw [hL.2.1, show (1 : Int32) = nI 1 from rfl, ck_nI (by omega) (by omega), nI_clamp (by omega), hM.2.1, e, if_pos (nI_le (Nat.le_refl _) (by omega)), if_pos (nI_le (Nat.le_refl _) (by omega))]
    exact ⟨z, rfl, rfl⟩
  | succ r ih =>
    intro n n2 k z hk hn hn2
    obtain ⟨n, rfl⟩ : ∃ m, n = m + 1 := ⟨n - 1, by omega⟩
    obtain ⟨n2, rfl⟩ : ∃ m, n2 = m + 1 := ⟨n2 - 1, by omega⟩
    have hkm : k < A 1 0 := by omega
    show ∃ z', F_X1_pipesWithB_5 (F_X1_pipesWith_5 n) L (nI j) (nI p) z (nI k) = some z' ∧ F_X5_pipesOfB_5 (F_X5_pipesOf_5 n2) M (nI p) (nI j) z (nI k) = some z'
    unfold F_X1_pipesWithB_5 F_X5_pipesOfB_5
    rw [hL.2.1, show (1 : Int32) = nI 1 from rfl, ck_nI (by omega) (by omega), nI_clamp (by omega), hM.2.1, if_neg (nI_ge hkm (by omega)), if_neg (nI_ge hkm (by omega)), pc_partOf L (by omega) hj, b1_some, pm_pi M (by omega) hj, b1_some, hL.2.2.2 k hkm j hj, hM.2.2.2 k hkm j hj, nI_add, or_0]
    by_cases c : nI (A (4 + j) k) = nI p
    · rw [if_pos c, if_pos c]
      exact ih n n2 (k + 1) _ (by omega) (by omega) (by omega)
    · rw [if_neg c, if_neg c]
      exact ih n n2 (k + 1) _ (by omega) (by omega) (by omega)
theorem st_placeOf {L K : Mm} {P : Nat → Nat} {Hs : Nat → Mm} {S N T R M : Mm} (h : INV L K P Hs S N T R M) (x1 : Int32) (x2 : Int32) : ∃ (r : Int32) (S' : Mm) (N' : Mm) (M' : Mm), F_X4_placeOf L K P Hs S N T R x1 x2 = some (r, S', N') ∧ F_X5_placeOf M x1 x2 = some (r, M') ∧ INV L K P Hs S' N' T R M' := by
  have hI := h
  obtain ⟨A, kept, Ah, len, hB, hL, hM, hC, hH, hT, hF⟩ := h
  have hB2 := hB.2.1
  have hB3 := hB.2.2.1
  unfold F_X4_placeOf F_X5_placeOf
  rw [pc_isPlace hL.1, b1_some, pm_isPlace hM.1, b1_some]
  by_cases c1 : (0 : Int32) ≤ x1 ∧ x1 ≤ nI (A 0 0) - 1
  · rw [if_pos c1, if_neg (show ¬ (1 : Int32) = 0 by decide), if_neg (show ¬ (1 : Int32) = 0 by decide), pr_in, b1_some]
    obtain ⟨p, hp, rfl⟩ := rg0 (by omega) c1
    by_cases c2 : (0 : Int32) ≤ x2 ∧ x2 ≤ 4
    · rw [if_pos c2, if_neg (show ¬ (1 : Int32) = 0 by decide)]
      obtain ⟨j, -, hj, rfl⟩ := rg (a := 0) (b := 4) (by omega) (by omega) c2
      rcases (show j = 0 ∨ j = 1 ∨ j = 2 ∨ j = 3 ∨ j = 4 by omega) with rfl | rfl | rfl | rfl | rfl
      · rw [if_pos (show nI 0 = (0 : Int32) from rfl), if_pos (show nI 0 = (0 : Int32) from rfl), ck_nI (by omega) (by omega), nI_clamp (by omega), (hL.2.2.1 p hp).1]
        unfold F_X5_placeOf_52
        rw [show (2 : Int32) = nI 2 from rfl, pk_mul, nI_add, nI_add, ck_nI (by omega) (by omega), nI_clamp (by omega), show 2 + 2 * p + 0 = 2 + 2 * p from rfl, (hM.2.2.1 p hp).1]
        exact ⟨_, _, _, _, rfl, rfl, hI⟩
      · rw [if_neg (show ¬ nI 1 = (0 : Int32) by decide), if_pos (show nI 1 = (1 : Int32) from rfl), if_neg (show ¬ nI 1 = (0 : Int32) by decide), if_pos (show nI 1 = (1 : Int32) from rfl), ck_nI (by omega) (by omega), nI_clamp (by omega), (hL.2.2.1 p hp).2]
        unfold F_X5_placeOf_52
        rw [show (2 : Int32) = nI 2 from rfl, pk_mul, nI_add, nI_add, ck_nI (by omega) (by omega), nI_clamp (by omega), (hM.2.2.1 p hp).2]
        exact ⟨_, _, _, _, rfl, rfl, hI⟩
      · obtain ⟨z', e1, e2⟩ := sets_5 hB hL hM (j := 0) (p := p) (by omega) (A 1 0) FU FU 0 (nI 0) (by omega) (by rw [FU_eq]; omega) (by rw [FU_eq]; omega)
        unfold F_X1_pipesWith F_X5_pipesOf
        rw [if_neg (show ¬ nI 2 = (0 : Int32) by decide), if_neg (show ¬ nI 2 = (1 : Int32) by decide), if_pos (show nI 2 = (2 : Int32) from rfl), if_neg (show ¬ nI 2 = (0 : Int32) by decide), if_neg (show ¬ nI 2 = (1 : Int32) by decide), if_pos (show nI 2 = (2 : Int32) from rfl), show (0 : Int32) = nI 0 from rfl, e1, e2, b1_some, b1_some]
        exact ⟨_, _, _, _, rfl, rfl, hI⟩
      · obtain ⟨z', e1, e2⟩ := sets_5 hB hL hM (j := 1) (p := p) (by omega) (A 1 0) FU FU 0 (nI 0) (by omega) (by rw [FU_eq]; omega) (by rw [FU_eq]; omega)
        unfold F_X1_pipesWith F_X5_pipesOf
        rw [if_neg (show ¬ nI 3 = (0 : Int32) by decide), if_neg (show ¬ nI 3 = (1 : Int32) by decide), if_neg (show ¬ nI 3 = (2 : Int32) by decide), if_pos (show nI 3 = (3 : Int32) from rfl), if_neg (show ¬ nI 3 = (0 : Int32) by decide), if_neg (show ¬ nI 3 = (1 : Int32) by decide), if_neg (show ¬ nI 3 = (2 : Int32) by decide), if_pos (show nI 3 = (3 : Int32) from rfl), show (0 : Int32) = nI 0 from rfl, show (1 : Int32) = nI 1 from rfl, e1, e2, b1_some, b1_some]
        exact ⟨_, _, _, _, rfl, rfl, hI⟩
      · rw [if_neg (show ¬ nI 4 = (0 : Int32) by decide), if_neg (show ¬ nI 4 = (1 : Int32) by decide), if_neg (show ¬ nI 4 = (2 : Int32) by decide), if_neg (show ¬ nI 4 = (3 : Int32) by decide), if_pos (show nI 4 = (4 : Int32) from rfl), if_neg (show ¬ nI 4 = (0 : Int32) by decide), if_neg (show ¬ nI 4 = (1 : Int32) by decide), if_neg (show ¬ nI 4 = (2 : Int32) by decide), if_neg (show ¬ nI 4 = (3 : Int32) by decide)]
        obtain ⟨N1, d1, -⟩ := pc_copyFrom N L
        have hL1 := LI_copy hB hL d1
        have hWB := WB_A hB p
        have hNB := NB_BA hWB
        have hLA : LI (va_up (va_up N1 0 (fl (N1 0) 6 0)) 0 (upd (fl (N1 0) 6 0) p 1)) (lyA A p) := by
          refine ⟨by rw [va_up_ne _ _ (by decide), va_up_ne _ _ (by decide)]; exact hL1.1, by rw [va_up_ne _ _ (by decide), va_up_ne _ _ (by decide)]; exact hL1.2.1, fun q hq => ⟨?_, ?_⟩, fun k hk j hj => ?_⟩
          · have hq : q < A 0 0 := hq
            rw [va_up_self, lyA_2]
            by_cases c : q = p
            · rw [c, pk_us, if_pos rfl]; rfl
            · rw [pk_un c, if_neg c]; exact if_pos (by omega)
          · rw [va_up_ne _ _ (by decide), va_up_ne _ _ (by decide), lyA_n A p q (by omega)]; exact (hL1.2.2.1 q hq).2
          · rw [va_up_ne _ _ (by decide), va_up_ne _ _ (by decide), lyA_n A p k (by omega)]; exact hL1.2.2.2 k hk j hj
        obtain ⟨S1, h1, h2⟩ := pc_begin (NC_BA hLA hWB) hNB S
        obtain ⟨k1, k2⟩ := fb_fe hNB 0
        have e256 : (va_up (va_up N1 0 (fl (N1 0) 6 0)) 0 (upd (fl (N1 0) 6 0) p 1)) 0 0 = nI (BA (lyA A p) 256) := by
          rw [show (256 : Nat) = 256 + 0 from rfl, BA_o hWB.1]; exact (hLA.2.2.1 0 hWB.1).1
        have h21 := hNB.2.2.2.2.2.2
        obtain ⟨g0, g1, g2, g3⟩ := al_2 (p := p) (M0 := M) 96 FU 0 (M 9) (by omega) (by omega) (by rw [FU_eq]; omega) (fun j hj => by omega)
        have hK0 : KI (lyA A p) (BA (lyA A p)) p g0 := by
          refine ⟨fun v hv => ?_, g2, fun e he X hX hcl v hv hg hve => ?_⟩
          · by_cases c : v = 16 * p
            · rw [c]; exact Or.inr g2
            · exact Or.inl (g3 v hv c)
          · by_cases c : v = 16 * p
            · rw [c]; exact hX
            · rw [g3 v hv c] at hg; exact absurd hg (by decide)
        obtain ⟨x, S2, g', j1, j2⟩ := al_33 (M0 := M) hB hM hp hLA 16 FU FU 0 (BA (lyA A p) 256) S1 (fb (BA (lyA A p))) g0 (by omega) (by rw [FU_eq]; omega) (by rw [FU_eq]; omega) (by omega) k1 k2 h2 (if_pos rfl) hK0 (fun v _ _ h => by omega) (fun s hs => by omega)
        have eM : va_up M 9 (M 9) = M := by funext q; unfold va_up; by_cases h : q = 9; rw [if_pos h, h]; rw [if_neg h]
        unfold F_X3_leastTickAlone F_X3_leastTickFor F_X5_alone
        rw [d1, b1_some, sv_eq, ck_nI (by omega) (by omega), sv_eq, nI_clamp (by omega), va_up_self, h1, b1_some, show (0 : Int32) = nI 0 from rfl, ck_nI (by omega) (by omega), nI_clamp (by omega)]
        rw [show (0 : Int32) = nI 0 from rfl] at e256 j1
        rw [eM] at g1
        rw [e256, show (1 : Int32) = nI 1 from rfl]
        rw [show (1 : Int32) = nI 1 from rfl] at j1
        rw [j1, b2_some, b3_some, g1, j2, b2_some]
        refine ⟨_, _, _, _, rfl, rfl, INV_M hI ?_ ?_ ?_ ?_⟩
        · rw [va_up_ne _ _ (by decide)]
        · rw [va_up_ne _ _ (by decide)]
        · rw [va_up_ne _ _ (by decide)]
        · intro j _; rw [va_up_ne _ _ (by decide)]
    · rw [if_neg c2, if_pos rfl]
      have n0 : ¬ x2 = (0 : Int32) := fun z => c2 (by rw [z]; exact ⟨by decide, by decide⟩)
      have n1 : ¬ x2 = (1 : Int32) := fun z => c2 (by rw [z]; exact ⟨by decide, by decide⟩)
      have n2 : ¬ x2 = (2 : Int32) := fun z => c2 (by rw [z]; exact ⟨by decide, by decide⟩)
      have n3 : ¬ x2 = (3 : Int32) := fun z => c2 (by rw [z]; exact ⟨by decide, by decide⟩)
      have n4 : ¬ x2 = (4 : Int32) := fun z => c2 (by rw [z]; exact ⟨by decide, by decide⟩)
      rw [if_neg n0, if_neg n1, if_neg n2, if_neg n3, if_neg n4]
      exact ⟨_, _, _, _, rfl, rfl, hI⟩
  · rw [if_neg c1, if_pos rfl, if_pos rfl]
    exact ⟨_, _, _, _, rfl, rfl, hI⟩
