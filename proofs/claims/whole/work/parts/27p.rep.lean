/-! PURE PART: repeated, earliest. -/
/-- all but one place told empty and without room, all pipes open -/
def lyE (A : Lay) (p0 : Nat) : Lay := fun i j => if i = 2 ∨ i = 3 then (if j = p0 then 1000000 else 0) else if i = 8 then 0 else if i = 9 then 15 else A i j
theorem lyE_n (A : Lay) (p0 : Nat) {i : Nat} (j : Nat) (h : i ≠ 2 ∧ i ≠ 3 ∧ i ≠ 8 ∧ i ≠ 9) : lyE A p0 i j = A i j := by
  unfold lyE
  rw [if_neg (by omega), if_neg (by omega), if_neg (by omega)]
theorem lyE_u (A : Lay) (p0 : Nat) {i : Nat} (j : Nat) (h : i = 2 ∨ i = 3) : lyE A p0 i j = if j = p0 then 1000000 else 0 := by
  unfold lyE
  rw [if_pos h]
theorem lyE_8 (A : Lay) (p0 j : Nat) : lyE A p0 8 j = 0 ∧ lyE A p0 9 j = 15 := by
  unfold lyE
  exact ⟨by rw [if_neg (by omega), if_pos rfl], by rw [if_neg (by omega), if_neg (by omega), if_pos rfl]⟩
theorem WB_E {A : Lay} (hB : LB A) {p0 : Nat} (h0 : p0 ≠ 0) : WB (lyE A p0) := by
  obtain ⟨h1, h2, h3, h4, h5⟩ := hB
  refine ⟨h1, h2, h3, fun p hp => ⟨?_, ?_⟩, ?_, fun k hk => ?_⟩
  · rw [lyE_u A p0 p (Or.inl rfl)]; split <;> omega
  · rw [lyE_u A p0 p (Or.inr rfl)]; split <;> omega
  · rw [lyE_u A p0 0 (Or.inl rfl), if_neg (by omega)]; omega
  · obtain ⟨a1, a2, a3, a4, a5, a6, a7, a8, a9⟩ := h5 k hk
    rw [(lyE_8 A p0 k).1, (lyE_8 A p0 k).2]
    exact ⟨a1, a2, a3, a4, a5, by show A 7 k ≤ 10; omega, by omega, by omega⟩
theorem SA_E (A : Lay) (p0 : Nat) : SA A (lyE A p0) := ⟨rfl, rfl, fun _ => rfl, fun _ => rfl, fun _ => rfl⟩
theorem MC_E {M : Mm} {A : Lay} {en : Nat} (hB : LB A) (hM : MI (M 0) A) {p0 : Nat} (hp0 : p0 < A 0 0) (h0 : p0 ≠ 0) (h7 : M 12 7 = -1) (h8 : M 12 8 = -1) (h10 : M 12 10 = nI p0) (h5 : M 12 5 = nI en) (hen : en ≤ 15) : MC M (lyE A p0) (BA (lyE A p0)) en := by
  have h2 := hB.2.1
  have h3 := hB.2.2.1
  refine MC_BA hB hM (SA_E A p0) (WB_E hB h0) (fun p hp => ?_) (fun p h1 hp => ?_) (fun k t hk ht => ?_) (fun k hk h => ?_) h5
  · unfold F_X5_unitsOf
    rw [h10, if_neg (nI_pos (by omega)), lyE_u A p0 p (Or.inl rfl)]
    by_cases c : p = p0
    · rw [c, if_pos rfl, if_pos rfl]; rfl
    · rw [if_neg (fun z => c ((nI_eq (by omega) (by omega)).mp z)), if_neg c]; rfl
  · unfold F_X5_roomOf
    rw [if_neg (nI_ne0 (by omega) (by omega)), h10, lyE_u A p0 p (Or.inr rfl)]
    by_cases c : p = p0
    · rw [c, if_pos rfl, if_pos rfl]; rfl
    · rw [if_neg (fun z => c ((nI_eq (by omega) (by omega)).mp z)), if_neg (nI_pos (by omega)), if_neg c]; rfl
  · have hb := hB.2.2.2.2 k hk
    have hn : nI k ≠ M 12 7 := by rw [h7]; exact nI_n1 (by omega)
    unfold F_X5_isOpen F_X5_isOpen_26
    rw [h10, if_pos (nI_pos' (by omega)), pm_isOpen_31 hB hM h5 hen hk ht, (lyE_8 A p0 k).1, (lyE_8 A p0 k).2, lyE_n A p0 k (i := 7) (by omega)]
    by_cases d : t + A 6 k ≤ en
    · rw [if_pos ⟨hn, d⟩, if_pos ⟨⟨by omega, by omega⟩, by omega, d⟩]
    · rw [if_neg (fun z => d z.2), if_neg (fun z => d z.2.2)]
  · rw [h8, if_neg (nI_n1 (by omega)), Int32.add_zero]; exact hM.2.2.2 k hk 3 (by omega)
theorem pc_rep_55 {A : Lay} {en : Nat} (hB : LB A) {p0 : Nat} (hp0 : p0 < A 0 0) (h0 : p0 ≠ 0) (hen : en ≤ 15) (S O : Mm) : ∀ (r n k : Nat) (N : Mm), k + r = A 1 0 → r < n → N 3 0 = nI (A 0 0) → N 3 1 = nI (A 1 0) → (∀ p, p < A 0 0 → N 0 p = nI (lyE A p0 2 p) ∧ N 1 p = nI (lyE A p0 3 p)) → (∀ k', k' < A 1 0 → ∀ j, j < 4 → N 2 (k' * 6 + j) = nI (A (4 + j) k')) → (∀ k', k' < k → N 2 (k' * 6 + 4) = nI 0 ∧ N 2 (k' * 6 + 5) = nI 15) → ∃ V S' N' f q T, F_X3_mostRepeated_55 n S N O (nI en) (nI k) = some (nI V, S', N') ∧ V ≤ 1621 ∧ Fe (lyE A p0) (BA (lyE A p0)) en f ∧ dv (ns (lyE A p0)) (nd (lyE A p0)) (fv f) 120 = ((V : Nat) : Int) ∧ FIN (lyE A p0) (BA (lyE A p0)) en f q T
  | r, 0, k, N, _, h, _, _, _, _, _ => by omega
  | 0, n + 1, k, N, hk, h, h30, h31, hu, h4, ho => by
    have h3 := hB.2.2.1
    have ek : k = A 1 0 := by omega
    have hL : LI N (lyE A p0) := by
      refine ⟨h30, h31, hu, fun k' hk' j hj => ?_⟩
      have hk' : k' < A 1 0 := hk'
      by_cases c : j < 4
      · rw [h4 k' hk' j c, lyE_n A p0 k' (by omega)]
      · rcases (show j = 4 ∨ j = 5 by omega) with rfl | rfl
        · rw [(ho k' (by omega)).1, show 4 + 4 = 8 from rfl, (lyE_8 A p0 k').1]
        · rw [(ho k' (by omega)).2, show 4 + 5 = 9 from rfl, (lyE_8 A p0 k').2]
    obtain ⟨V, S', f, q, T, h1, h2, h3', h4', h5, h6, h7⟩ := pc_mostBy (NC_BA hL (WB_E hB h0)) (NB_BA (WB_E hB h0)) hen S
    show ∃ V S' N' f q T, F_X3_mostRepeatedB_55 (F_X3_mostRepeated_55 n) S N O (nI en) (nI k) = _ ∧ _
    unfold F_X3_mostRepeatedB_55
    rw [h31, ek, if_pos (nI_le (Nat.le_refl _) (by omega)), h1, b2_some]
    exact ⟨V, S', N, f, q, T, rfl, h2, h3', h4', h6⟩
  | r + 1, n + 1, k, N, hk, h, h30, h31, hu, h4, ho => by
    have h3 := hB.2.2.1
    show ∃ V S' N' f q T, F_X3_mostRepeatedB_55 (F_X3_mostRepeated_55 n) S N O (nI en) (nI k) = _ ∧ _
    unfold F_X3_mostRepeatedB_55 F_X1_setOpening
    rw [h31, if_neg (nI_ge (by omega) (by omega)), show (4 : Int32) = nI 4 from rfl, show (5 : Int32) = nI 5 from rfl, pc_setPart N (by omega) (by omega), b1_some, pc_setPart _ (by omega) (by omega), b1_some, b1_some, ← nI_succ, bx_uu, va_up_self]
    refine pc_rep_55 hB hp0 h0 hen S O r n (k + 1) _ (by omega) (by omega) ?_ ?_ ?_ ?_ ?_
    · rw [va_up_ne _ _ (by decide)]; exact h30
    · rw [va_up_ne _ _ (by decide)]; exact h31
    · rw [va_up_ne _ _ (by decide), va_up_ne _ _ (by decide)]; exact hu
    · intro k' hk' j hj
      rw [va_up_self, pk_un (by omega), pk_un (by omega)]
      exact h4 k' hk' j hj
    · intro k' hk'
      rw [va_up_self]
      by_cases c : k' = k
      · rw [c, pk_un (by omega), pk_us, pk_us]; exact ⟨rfl, rfl⟩
      · rw [pk_un (by omega), pk_un (by omega), pk_un (by omega), pk_un (by omega)]; exact ho k' (by omega)
theorem pc_rep {L : Mm} {A : Lay} (hB : LB A) (hL : LI L A) {p en : Nat} (hp : p < A 0 0) (c0 : p ≠ 0) (hen : en ≤ 15) (S N : Mm) : ∃ V S' N' f q T, F_X3_mostRepeated S N L (nI p) (nI en) = some (nI V, S', N') ∧ V ≤ 1621 ∧ Fe (lyE A p) (BA (lyE A p)) en f ∧ dv (ns (lyE A p)) (nd (lyE A p)) (fv f) 120 = ((V : Nat) : Int) ∧ FIN (lyE A p) (BA (lyE A p)) en f q T := by
  have hB2 := hB.2.1
  have hB3 := hB.2.2.1
  obtain ⟨N1, d1, -⟩ := pc_copyFrom N L
  have hL1 := LI_copy hB hL d1
  have fl0 : ∀ (g : Nat → Int32) q, q < A 0 0 → upd (fl g 6 0) p 1000000 q = nI (if q = p then 1000000 else 0) := by
    intro g q hq
    by_cases c : q = p
    · rw [c, pk_us, if_pos rfl]; rfl
    · rw [pk_un c, if_neg c]; exact if_pos (by omega)
  unfold F_X3_mostRepeated
  rw [d1, b1_some, sv_eq, sv_eq, ck_nI (by omega) (by omega), sv_eq, ck_nI (by omega) (by omega), sv_eq, nI_clamp (by omega)]
  refine pc_rep_55 hB hp c0 hen S L (A 1 0) FU 0 _ (by omega) (by rw [FU_eq]; omega) ?_ ?_ ?_ ?_ ?_
  · rw [va_up_ne _ _ (by decide), va_up_ne _ _ (by decide), va_up_ne _ _ (by decide), va_up_ne _ _ (by decide)]; exact hL1.1
  · rw [va_up_ne _ _ (by decide), va_up_ne _ _ (by decide), va_up_ne _ _ (by decide), va_up_ne _ _ (by decide)]; exact hL1.2.1
  · intro q hq
    rw [lyE_u A p q (Or.inl rfl), lyE_u A p q (Or.inr rfl)]
    refine ⟨?_, ?_⟩
    · rw [va_up_ne _ _ (by decide), va_up_self, va_up_ne _ _ (by decide), va_up_self]; exact fl0 _ q hq
    · rw [va_up_self, va_up_ne _ _ (by decide), va_up_self]; exact fl0 _ q hq
  · intro k' hk' j hj
    rw [va_up_ne _ _ (by decide), va_up_ne _ _ (by decide), va_up_ne _ _ (by decide), va_up_ne _ _ (by decide)]; exact hL1.2.2.2 k' hk' j (by omega)
  · intro k' hk'; omega
theorem st_repeated {L K : Mm} {P : Nat → Nat} {Hs : Nat → Mm} {S N T R M : Mm} (h : INV L K P Hs S N T R M) (x1 : Int32) (x2 : Int32) : ∃ (r : Int32) (S' : Mm) (N' : Mm) (M' : Mm), F_X4_repeated L K P Hs S N T R x1 x2 = some (r, S', N') ∧ F_X5_repeated M x1 x2 = some (r, M') ∧ INV L K P Hs S' N' T R M' := by
  have hI := h
  obtain ⟨A, kept, Ah, len, hB, hL, hM, hC, hH, hT, hF⟩ := h
  have hB2 := hB.2.1
  have hB3 := hB.2.2.1
  unfold F_X4_repeated F_X5_repeated
  rw [pc_isPlace hL.1, b1_some, pm_isPlace hM.1, b1_some]
  by_cases c2 : (0 : Int32) ≤ x1 ∧ x1 ≤ nI (A 0 0) - 1
  · rw [if_pos c2, if_neg (show ¬ (1 : Int32) = 0 by decide), if_neg (show ¬ (1 : Int32) = 0 by decide)]
    obtain ⟨p, hp, rfl⟩ := rg0 (by omega) c2
    by_cases c0 : p = 0
    · rw [c0, if_pos (show nI 0 = (0 : Int32) from rfl), if_pos (show nI 0 = (0 : Int32) from rfl)]
      exact ⟨_, _, _, _, rfl, rfl, hI⟩
    · have hn0 : ¬ nI p = (0 : Int32) := nI_ne0 (by omega) (by omega)
      rw [if_neg hn0, if_neg hn0, pc_isTick, b1_some, pr_in, b1_some]
      by_cases c1 : (0 : Int32) ≤ x2 ∧ x2 ≤ 15
      · rw [if_pos c1, if_neg (show ¬ (1 : Int32) = 0 by decide), if_neg (show ¬ (1 : Int32) = 0 by decide), sv_eq]
        obtain ⟨en, hen, rfl⟩ := tick_of c1
        obtain ⟨V, S', N', f, q, T1, a1, a2, a3, a4, a6⟩ := pc_rep hB hL hp c0 hen S N
        obtain ⟨V2, M', f2, q2, T2, b1', b2', b3', b4', b5', b6', b7', b8'⟩ := pm_comes (M := va_up M 12 (upd (M 12) 10 (nI p))) (NB_BA (WB_E hB c0)) hen (MC_E hB (by rw [va_up_ne _ _ (by decide), va_up_ne _ _ (by decide)]; exact hM) hp c0 (by rw [va_up_self, pk_un (by decide), va_up_self, pk_un (by decide)]; exact hF.1) (by rw [va_up_self, pk_un (by decide), va_up_self, pk_un (by decide)]; exact hF.2.1) (by rw [va_up_self, pk_un (by decide), va_up_self, pk_us]) (by rw [va_up_self, pk_us]) hen)
        have e := same_V (NB_BA (WB_E hB c0)) a3 b3' a6 b5' a4 b4'
        obtain ⟨M3, m1, -⟩ := pm_asIs M'
        rw [a1, b3_some, b1', b2_some, m1, b1_some, e]
        refine ⟨_, _, _, _, rfl, rfl, INV_asIs hI (fun q hq => ?_) (fun j hj => ?_) m1⟩
        · rw [b7'.1 q hq, va_up_ne _ _ (by omega)]
        · rw [b7'.2 j (by omega) (by omega), va_up_self, pk_un (by omega)]
      · rw [if_neg c1, if_pos rfl, if_pos rfl]
        exact ⟨_, _, _, _, rfl, rfl, hI⟩
  · rw [if_neg c2, if_pos rfl, if_pos rfl]
    exact ⟨_, _, _, _, rfl, rfl, hI⟩
