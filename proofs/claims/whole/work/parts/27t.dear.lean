/-! PURE PART: the loops of dearest and helpful. -/
theorem INV_fl {L K : Mm} {P : Nat → Nat} {Hs : Nat → Mm} {S N T R M M' S' N' R' : Mm} (h : INV L K P Hs S N T R M) (hc : ∀ q, q < 6 → M' q = M q) (hc2 : ∀ j, j < 5 → M' 12 j = M 12 j) (hF : FI M') : INV L K P Hs S' N' T R' M' := by
  obtain ⟨A, kept, Ah, len, hB, hL, hM, hC, hH, hT, -⟩ := h
  refine ⟨A, kept, Ah, len, hB, hL, by rw [hc 0 (by decide)]; exact hM, hC, ⟨by rw [hc2 0 (by decide)]; exact hH.1, fun i hi => ?_⟩, ⟨hT.1, hT.2.1, by rw [hc2 1 (by decide)]; exact hT.2.2.1, by rw [hc 4 (by decide)]; exact hT.2.2.2⟩, hF⟩
  rw [hc 1 (by decide)]; exact hH.2 i hi
theorem nI_neg {x : Int32} (h : x = (-1000004 : Int32)) : x < 0 ∧ ¬ 0 ≤ x := by rw [h]; exact ⟨by decide, by decide⟩
theorem dear {L K : Mm} {P : Nat → Nat} {Hs : Nat → Mm} {T R : Mm} {A : Lay} (hB : LB A) (hL : LI L A) {en V q : Nat} (hen : en ≤ 15) {f : Nat → Nat} {T1 : Lay} (hE : Fe A (BA A) en f) (hF : FIN A (BA A) en f q T1) (hv : dv (ns A) (nd A) (fv f) 120 = ((V : Nat) : Int)) (hV : V ≤ 1621) (h1 : 1 ≤ A 1 0) (x2 : Int32) : ∀ (r n n2 k fw d : Nat) (S N M : Mm), k + r = A 1 0 → r < n → r < n2 → MI (M 0) A → M 12 8 = -1 → M 12 9 = -1 → M 12 10 = -1 → fw ≤ V → d ≤ k → (k = 0 → fw = V) → ∃ (x : Int32) (S' N' M' : Mm), F_X4_dearest_60 n L K P Hs S N T R (nI en) x2 (nI fw) (nI (sb (Pt f 16) (A 1 0))) (nI d) (nI k) = some (x, S', N') ∧ F_X5_dearest_31 n2 M (nI en) x2 (if k = 0 then (-1000004 : Int32) else nI d) (if k = 0 then (0 : Int32) else nI fw) (nI k) = some (x, M') ∧ FI M' ∧ (∀ j, j < 6 → M' j = M j) ∧ (∀ j, j < 5 → M' 12 j = M 12 j) := by
  intro r
  have hm := hB.2.2.1
  induction r with
  | zero =>
    intro n n2 k fw d S N M hk hn hn2 hM h8 h9 h10 hfw hd h0
    obtain ⟨n, rfl⟩ : ∃ m, n = m + 1 := ⟨n - 1, by omega⟩
    obtain ⟨n2, rfl⟩ : ∃ m, n2 = m + 1 := ⟨n2 - 1, by omega⟩
    have ek : k = A 1 0 := by omega
    show ∃ x S' N' M', F_X4_dearestB_60 (F_X4_dearest_60 n) L K P Hs S N T R (nI en) x2 (nI fw) (nI (sb (Pt f 16) (A 1 0))) (nI d) (nI k) = some (x, S', N') ∧ F_X5_dearestB_31 (F_X5_dearest_31 n2) M (nI en) x2 _ _ (nI k) = some (x, M') ∧ _
    unfold F_X4_dearestB_60 F_X5_dearestB_31
    obtain ⟨M1, m1, m2, m3, m4⟩ := pm_asIs M
    rw [hL.2.1, show (1 : Int32) = nI 1 from rfl, ck_nI (by omega) (by omega), nI_clamp (by omega), hM.2.1, ek, if_pos (nI_le (Nat.le_refl _) (by omega)), if_pos (nI_le (Nat.le_refl _) (by omega)), m1, b1_some, if_neg (show ¬ A 1 0 = 0 by omega), if_neg (show ¬ A 1 0 = 0 by omega)]
    refine ⟨if x2 = 0 then nI d else nI fw, S, N, M1, ?_, ?_, m3, fun j hj => m2 j (by omega), fun j hj => m4 j (by omega)⟩
    · by_cases c : x2 = 0
      · rw [if_pos c, if_pos c]
      · rw [if_neg c, if_neg c]
    · by_cases c : x2 = 0
      · rw [if_pos c, if_pos c]
      · rw [if_neg c, if_neg c, if_pos (nI_pos' (by omega))]
  | succ r ih =>
    intro n n2 k fw d S N M hk hn hn2 hM h8 h9 h10 hfw hd h0
    obtain ⟨n, rfl⟩ : ∃ m, n = m + 1 := ⟨n - 1, by omega⟩
    obtain ⟨n2, rfl⟩ : ∃ m, n2 = m + 1 := ⟨n2 - 1, by omega⟩
    have hkm : k < A 1 0 := by omega
    show ∃ x S' N' M', F_X4_dearestB_60 (F_X4_dearest_60 n) L K P Hs S N T R (nI en) x2 (nI fw) (nI (sb (Pt f 16) (A 1 0))) (nI d) (nI k) = some (x, S', N') ∧ F_X5_dearestB_31 (F_X5_dearest_31 n2) M (nI en) x2 _ _ (nI k) = some (x, M') ∧ _
    unfold F_X4_dearestB_60 F_X5_dearestB_31
    obtain ⟨W, M1, f2, q2, T2, w1, w2, w3, w4, w5, w6, w7⟩ := pm_less hB hM h8 h9 h10 hkm hen
    have hWV := less_le hB hkm hE hF hv w3 w4
    rw [hL.2.1, show (1 : Int32) = nI 1 from rfl, ck_nI (by omega) (by omega), nI_clamp (by omega), hM.2.1, if_neg (nI_ge hkm (by omega)), if_neg (nI_ge hkm (by omega)), sv_eq, w1, b2_some]
    have next : ∀ (fw' d' : Nat) (S1 N1 : Mm), fw' ≤ V → d' ≤ k + 1 → ∃ x S' N' M', F_X4_dearest_60 n L K P Hs S1 N1 T R (nI en) x2 (nI fw') (nI (sb (Pt f 16) (A 1 0))) (nI d') (nI (k + 1)) = some (x, S', N') ∧ F_X5_dearest_31 n2 M1 (nI en) x2 (nI d') (nI fw') (nI (k + 1)) = some (x, M') ∧ FI M' ∧ (∀ j, j < 6 → M' j = M j) ∧ (∀ j, j < 5 → M' 12 j = M 12 j) := by
      intro fw' d' S1 N1 i1 i2
      obtain ⟨x, S', N', M', j1, j2, j3, j4, j5⟩ := ih n n2 (k + 1) fw' d' S1 N1 M1 (by omega) (by omega) (by omega) (by rw [w6 0 (by decide)]; exact hM) (by rw [w7 8 (by decide) (by decide) (by decide)]; exact h8) (by rw [w7 9 (by decide) (by decide) (by decide)]; exact h9) (by rw [w7 10 (by decide) (by decide) (by decide)]; exact h10) i1 i2 (fun z => by omega)
      rw [if_neg (by omega), if_neg (by omega)] at j2
      exact ⟨x, S', N', M', j1, j2, j3, fun j hj => by rw [j4 j hj, w6 j hj], fun j hj => by rw [j5 j hj, w7 j (by omega) (by omega) (by omega)]⟩
    -- the class, once its number is known
    have cls : ∀ (s0 : Nat) (S1 N1 : Mm), (s0 = W ∨ (s0 = fw ∧ W = V)) → ∃ x S' N' M', F_X4_dearest_100 (F_X4_dearest_60 n) L K P Hs S1 N1 T R (nI en) x2 (nI fw) (nI (sb (Pt f 16) (A 1 0))) (nI d) (nI k) (nI s0) = some (x, S', N') ∧ (if (if k = 0 then (-1000004 : Int32) else nI d) < 0 then F_X5_dearest_66 (F_X5_dearest_31 n2) M1 (nI en) x2 (if k = 0 then (-1000004 : Int32) else nI d) (if k = 0 then (0 : Int32) else nI fw) (nI k) (nI W) else (if (if k = 0 then (0 : Int32) else nI fw) ≤ nI W then F_X5_dearest_71 (F_X5_dearest_31 n2) M1 (nI en) x2 (if k = 0 then (-1000004 : Int32) else nI d) (if k = 0 then (0 : Int32) else nI fw) (nI k) (nI W) (0 : Int32) else F_X5_dearest_66 (F_X5_dearest_31 n2) M1 (nI en) x2 (if k = 0 then (-1000004 : Int32) else nI d) (if k = 0 then (0 : Int32) else nI fw) (nI k) (nI W))) = some (x, M') ∧ FI M' ∧ (∀ j, j < 6 → M' j = M j) ∧ (∀ j, j < 5 → M' 12 j = M 12 j) := by
      intro s0 S1 N1 hs
      unfold F_X4_dearest_100 F_X5_dearest_66 F_X5_dearest_71 F_X5_dearest_84
      rw [if_neg (show ¬ (1 : Int32) = 0 by decide), if_neg (show ¬ (1 : Int32) = 0 by decide), if_pos (show (0 : Int32) = 0 from rfl), if_pos (show (0 : Int32) = 0 from rfl), ← nI_succ]
      by_cases ck0 : k = 0
      · have hfV := h0 ck0
        rw [if_pos ck0, if_pos (show (-1000004 : Int32) < 0 by decide)]
        have hd0 : d = k := by omega
        by_cases c : fw ≤ s0
        · have e : W = fw := by omega
          rw [if_pos (nI_le c (by omega)), e, hd0]
          exact next fw k S1 N1 hfw (by omega)
        · have e : s0 = W := by omega
          rw [if_neg (nI_ge (by omega) (by omega)), e]
          exact next W k S1 N1 hWV (by omega)
      · rw [if_neg ck0, if_neg (nI_pos (show d < 2 ^ 31 by omega)), if_neg ck0]
        by_cases c : fw ≤ s0
        · rw [if_pos (nI_le c (by omega)), if_pos (nI_le (show fw ≤ W by omega) (by omega))]
          exact next fw d S1 N1 hfw (by omega)
        · have e : s0 = W := by omega
          rw [if_neg (nI_ge (by omega) (by omega)), if_neg (nI_ge (show W < fw by omega) (by omega)), e]
          exact next W k S1 N1 hWV (by omega)
    rcases sb_has (Pt f 16) (m := A 1 0) (by omega) hkm with ⟨u1, u2⟩ | ⟨u1, u2⟩
    · obtain ⟨W', S1, N1, f3, q3, T3, v1, v2, v3, v4, v5⟩ := pc_mostWithout hB hL hkm hen S N
      have e := same_V (NB_BA (WB_7 hB (v := 0) (k0 := k) (by omega))) v3 w3 v5 w5 v4 w4
      rw [u1, b1_some, if_neg (by decide), v1, b3_some, e]
      exact cls W S1 N1 (Or.inl rfl)
    · have e := less_same hB hkm hE hF hv w3 w5 w4 u2
      rw [u1, b1_some, if_pos rfl]
      exact cls fw S N (Or.inr ⟨rfl, e.symm⟩)
theorem st_dearest {L K : Mm} {P : Nat → Nat} {Hs : Nat → Mm} {S N T R M : Mm} (h : INV L K P Hs S N T R M) (x1 : Int32) (x2 : Int32) : ∃ (r : Int32) (S' : Mm) (N' : Mm) (M' : Mm), F_X4_dearest L K P Hs S N T R x1 x2 = some (r, S', N') ∧ F_X5_dearest M x1 x2 = some (r, M') ∧ INV L K P Hs S' N' T R M' := by
  have hI := h
  obtain ⟨A, kept, Ah, len, hB, hL, hM, hC, hH, hT, hF⟩ := h
  have hB3 := hB.2.2.1
  unfold F_X4_dearest F_X5_dearest
  rw [pc_isTick, b1_some, pr_in, b1_some]
  by_cases c1 : (0 : Int32) ≤ x1 ∧ x1 ≤ 15
  · rw [if_pos c1, if_neg (show ¬ (1 : Int32) = 0 by decide), if_neg (show ¬ (1 : Int32) = 0 by decide), pc_within, b1_some, pr_in, b1_some]
    obtain ⟨en, hen, rfl⟩ := tick_of c1
    by_cases c2 : (0 : Int32) ≤ x2 ∧ x2 ≤ 1
    · rw [if_pos c2, if_neg (show ¬ (1 : Int32) = 0 by decide), if_neg (show ¬ (1 : Int32) = 0 by decide), hL.2.1]
      by_cases c3 : A 1 0 = 0
      · rw [c3, if_pos (show nI 0 = (0 : Int32) from rfl)]
        obtain ⟨M1, m1, m2, m3, m4⟩ := pm_asIs M
        have e : F_X5_dearest_31 FU M (nI en) x2 (-1000004 : Int32) 0 0 = some ((-1000004 : Int32), M1) := by
          show F_X5_dearestB_31 (F_X5_dearest_31 1099999) M (nI en) x2 (-1000004 : Int32) (nI 0) (nI 0) = _
          unfold F_X5_dearestB_31
          rw [show (1 : Int32) = nI 1 from rfl, ck_nI (by omega) (by omega), nI_clamp (by omega), hM.2.1, c3, if_pos (nI_le (Nat.le_refl _) (by omega)), m1, b1_some]
          by_cases c : x2 = 0
          · rw [if_pos c]
          · rw [if_neg c, if_neg (show ¬ (0 : Int32) ≤ -1000004 by decide)]
        rw [e]
        exact ⟨_, _, _, _, rfl, rfl, INV_fl hI (fun j hj => m2 j (by omega)) (fun j hj => m4 j (by omega)) m3⟩
      · rw [if_neg (nI_ne0 (by omega) (by omega))]
        obtain ⟨V, S', N', f, q, T1, a1, a2, a3, a4, a5, a6, a7, a8⟩ := pc_most hB hL hen S N
        have d1 := pc_used (NC_BA a8 hB.wb) (NB_BA hB.wb) a3 a5
        obtain ⟨x, S2, N2, M2, g1, g2, g3, g4, g5⟩ := dear (K := K) (P := P) (Hs := Hs) (T := T) (R := R) hB hL hen a3 a6 a4 a2 (by omega) x2 (A 1 0) FU FU 0 V 0 S' N' M (by omega) (by rw [FU_eq]; omega) (by rw [FU_eq]; omega) hM hF.2.1 hF.2.2.1 hF.2.2.2 (Nat.le_refl _) (Nat.le_refl _) (fun _ => rfl)
        rw [if_pos rfl, if_pos rfl] at g2
        rw [a1, b3_some, d1, b1_some, show (0 : Int32) = nI 0 from rfl, g1]
        exact ⟨_, _, _, _, rfl, g2, INV_fl hI g4 g5 g3⟩
    · rw [if_neg c2, if_pos rfl, if_pos rfl]
      exact ⟨_, _, _, _, rfl, rfl, hI⟩
  · rw [if_neg c1, if_pos rfl, if_pos rfl]
    exact ⟨_, _, _, _, rfl, rfl, hI⟩
theorem help {L K : Mm} {P : Nat → Nat} {Hs : Nat → Mm} {T R : Mm} {A : Lay} (hB : LB A) (hL : LI L A) {en V q : Nat} (hen : en ≤ 15) {f : Nat → Nat} {T1 : Lay} (hE : Fe A (BA A) en f) (hF : FIN A (BA A) en f q T1) (hv : dv (ns A) (nd A) (fv f) 120 = ((V : Nat) : Int)) (hV : V ≤ 1621) (x2 : Int32) : ∀ (r n n2 k g d fd : Nat) (S N M : Mm), k + r = A 1 0 → r < n → r < n2 → MI (M 0) A → M 12 7 = -1 → M 12 9 = -1 → M 12 10 = -1 → g ≤ 1621 → d ≤ k → ∃ (x : Int32) (S' N' M' : Mm), F_X4_helpful_51 n L K P Hs S N T R (nI en) x2 (nI V) (nI (sb (NP A (BA A) en q T1) (A 1 0))) (nI g) (if fd = 0 then (-1 : Int32) else nI d) (nI k) = some (x, S', N') ∧ F_X5_helpful_38 n2 M (nI en) x2 (nI V) (if fd = 0 then (-1000004 : Int32) else nI d) (nI g) (nI k) = some (x, M') ∧ FI M' ∧ (∀ j, j < 6 → M' j = M j) ∧ (∀ j, j < 5 → M' 12 j = M 12 j) := by
  intro r
  have hm := hB.2.2.1
  induction r with
  | zero =>
    intro n n2 k g d fd S N M hk hn hn2 hM h7 h9 h10 hg hd
    obtain ⟨n, rfl⟩ : ∃ m, n = m + 1 := ⟨n - 1, by omega⟩
    obtain ⟨n2, rfl⟩ : ∃ m, n2 = m + 1 := ⟨n2 - 1, by omega⟩
    have ek : k = A 1 0 := by omega
    show ∃ x S' N' M', F_X4_helpfulB_51 (F_X4_helpful_51 n) L K P Hs S N T R (nI en) x2 (nI V) (nI (sb (NP A (BA A) en q T1) (A 1 0))) (nI g) _ (nI k) = some (x, S', N') ∧ F_X5_helpfulB_38 (F_X5_helpful_38 n2) M (nI en) x2 (nI V) _ (nI g) (nI k) = some (x, M') ∧ _
    unfold F_X4_helpfulB_51 F_X5_helpfulB_38
    obtain ⟨M1, m1, m2, m3, m4⟩ := pm_asIs M
    rw [hL.2.1, show (1 : Int32) = nI 1 from rfl, ck_nI (by omega) (by omega), nI_clamp (by omega), hM.2.1, ek, if_pos (nI_le (Nat.le_refl _) (by omega)), if_pos (nI_le (Nat.le_refl _) (by omega)), m1, b1_some]
    by_cases cf : fd = 0
    · rw [if_pos cf, if_pos cf, if_pos (show (-nI 1 : Int32) = -nI 1 from rfl)]
      refine ⟨_, S, N, M1, rfl, ?_, m3, fun j hj => m2 j (by omega), fun j hj => m4 j (by omega)⟩
      by_cases c : x2 = 0
      · rw [if_pos c]
      · rw [if_neg c, if_neg (show ¬ (0 : Int32) ≤ -1000004 by decide)]
    · rw [if_neg cf, if_neg cf, if_neg (show ¬ nI d = -nI 1 from nI_n1 (by omega))]
      refine ⟨if x2 = 0 then nI d else nI g, S, N, M1, ?_, ?_, m3, fun j hj => m2 j (by omega), fun j hj => m4 j (by omega)⟩
      · by_cases c : x2 = 0
        · rw [if_pos c, if_pos c]
        · rw [if_neg c, if_neg c]
      · by_cases c : x2 = 0
        · rw [if_pos c, if_pos c]
        · rw [if_neg c, if_neg c, if_pos (nI_pos' (by omega))]
  | succ r ih =>
    intro n n2 k g d fd S N M hk hn hn2 hM h7 h9 h10 hg hd
    obtain ⟨n, rfl⟩ : ∃ m, n = m + 1 := ⟨n - 1, by omega⟩
    obtain ⟨n2, rfl⟩ : ∃ m, n2 = m + 1 := ⟨n2 - 1, by omega⟩
    have hkm : k < A 1 0 := by omega
    have hb := hB.2.2.2.2 k hkm
    show ∃ x S' N' M', F_X4_helpfulB_51 (F_X4_helpful_51 n) L K P Hs S N T R (nI en) x2 (nI V) (nI (sb (NP A (BA A) en q T1) (A 1 0))) (nI g) _ (nI k) = some (x, S', N') ∧ F_X5_helpfulB_38 (F_X5_helpful_38 n2) M (nI en) x2 (nI V) _ (nI g) (nI k) = some (x, M') ∧ _
    unfold F_X4_helpfulB_51 F_X5_helpfulB_38
    obtain ⟨W, M1, f2, q2, T2, w1, w2, w3, w4, w5, w6, w7⟩ := pm_wider hB hM h7 h9 h10 hkm hen
    have hWV := wide_ge hB hkm hE hv w3 w5 w4
    rw [hL.2.1, show (1 : Int32) = nI 1 from rfl, ck_nI (by omega) (by omega), nI_clamp (by omega), hM.2.1, if_neg (nI_ge hkm (by omega)), if_neg (nI_ge hkm (by omega)), sv_eq, w1, b2_some, pk_sub hWV]
    have next : ∀ (g' d' fd' : Nat) (S1 N1 : Mm), g' ≤ 1621 → d' ≤ k + 1 → ∃ x S' N' M', F_X4_helpful_51 n L K P Hs S1 N1 T R (nI en) x2 (nI V) (nI (sb (NP A (BA A) en q T1) (A 1 0))) (nI g') (if fd' = 0 then (-1 : Int32) else nI d') (nI (k + 1)) = some (x, S', N') ∧ F_X5_helpful_38 n2 M1 (nI en) x2 (nI V) (if fd' = 0 then (-1000004 : Int32) else nI d') (nI g') (nI (k + 1)) = some (x, M') ∧ FI M' ∧ (∀ j, j < 6 → M' j = M j) ∧ (∀ j, j < 5 → M' 12 j = M 12 j) := by
      intro g' d' fd' S1 N1 i1 i2
      obtain ⟨x, S', N', M', j1, j2, j3, j4, j5⟩ := ih n n2 (k + 1) g' d' fd' S1 N1 M1 (by omega) (by omega) (by omega) (by rw [w6 0 (by decide)]; exact hM) (by rw [w7 7 (by decide) (by decide) (by decide)]; exact h7) (by rw [w7 9 (by decide) (by decide) (by decide)]; exact h9) (by rw [w7 10 (by decide) (by decide) (by decide)]; exact h10) i1 i2
      exact ⟨x, S', N', M', j1, j2, j3, fun j hj => by rw [j4 j hj, w6 j hj], fun j hj => by rw [j5 j hj, w7 j (by omega) (by omega) (by omega)]⟩
    have cls : ∀ (S1 N1 : Mm), ∃ x S' N' M', F_X4_helpful_93 (F_X4_helpful_51 n) L K P Hs S1 N1 T R (nI en) x2 (nI V) (nI (sb (NP A (BA A) en q T1) (A 1 0))) (nI g) (if fd = 0 then (-1 : Int32) else nI d) (nI k) (nI (W - V)) = some (x, S', N') ∧ (if nI (W - V) ≤ nI g then F_X5_helpful_78 (F_X5_helpful_38 n2) M1 (nI en) x2 (nI V) (nI g) (nI k) (nI (W - V)) (if fd = 0 then (-1000004 : Int32) else nI d) else F_X5_helpful_78 (F_X5_helpful_38 n2) M1 (nI en) x2 (nI V) (nI g) (nI k) (nI (W - V)) (nI k)) = some (x, M') ∧ FI M' ∧ (∀ j, j < 6 → M' j = M j) ∧ (∀ j, j < 5 → M' 12 j = M 12 j) := by
      intro S1 N1
      unfold F_X4_helpful_93 F_X5_helpful_78
      rw [← nI_succ]
      by_cases c : W - V ≤ g
      · rw [if_pos (nI_le c (by omega)), if_pos (nI_le c (by omega)), if_pos (nI_le c (by omega))]
        exact next g d fd S1 N1 hg (by omega)
      · rw [if_neg (nI_ge (by omega) (by omega)), if_neg (nI_ge (by omega) (by omega)), if_neg (nI_ge (by omega) (by omega))]
        have := next (W - V) k 1 S1 N1 (by omega) (by omega)
        rw [if_neg (by decide), if_neg (by decide)] at this
        exact this
    rcases sb_has (NP A (BA A) en q T1) (m := A 1 0) (by omega) hkm with ⟨u1, u2⟩ | ⟨u1, u2⟩
    · obtain ⟨W', S1, N1, f3, q3, T3, v1, v2, v3, v4, v5⟩ := pc_mostWider hB hL hkm hen S N
      have e := same_V (NB_BA (WB_7 hB (v := A 7 k + 1) (k0 := k) (by omega))) v3 w3 v5 w5 v4 w4
      rw [u1, b1_some, if_neg (by decide), v1, b3_some, e, pk_sub hWV]
      exact cls S1 N1
    · have e := wide_same hB hkm hen hE hF hv w3 w5 w4 u2
      have hc := cls S N
      rw [show W - V = 0 by omega] at hc ⊢
      rw [u1, b1_some, if_pos rfl]
      exact hc
theorem st_helpful {L K : Mm} {P : Nat → Nat} {Hs : Nat → Mm} {S N T R M : Mm} (h : INV L K P Hs S N T R M) (x1 : Int32) (x2 : Int32) : ∃ (r : Int32) (S' : Mm) (N' : Mm) (M' : Mm), F_X4_helpful L K P Hs S N T R x1 x2 = some (r, S', N') ∧ F_X5_helpful M x1 x2 = some (r, M') ∧ INV L K P Hs S' N' T R M' := by
  have hI := h
  obtain ⟨A, kept, Ah, len, hB, hL, hM, hC, hH, hT, hF⟩ := h
  have hB3 := hB.2.2.1
  unfold F_X4_helpful F_X5_helpful
  rw [pc_isTick, b1_some, pr_in, b1_some]
  by_cases c1 : (0 : Int32) ≤ x1 ∧ x1 ≤ 15
  · rw [if_pos c1, if_neg (show ¬ (1 : Int32) = 0 by decide), if_neg (show ¬ (1 : Int32) = 0 by decide), pc_within, b1_some, pr_in, b1_some]
    obtain ⟨en, hen, rfl⟩ := tick_of c1
    by_cases c2 : (0 : Int32) ≤ x2 ∧ x2 ≤ 1
    · rw [if_pos c2, if_neg (show ¬ (1 : Int32) = 0 by decide), if_neg (show ¬ (1 : Int32) = 0 by decide)]
      obtain ⟨V, S', N', f, q, T1, a1, a2, a3, a4, a5, a6, a7, a8⟩ := pc_most hB hL hen S N
      obtain ⟨V2, M', f2, q2, T2, b1', b2', b3', b4', b5', b6', b7', b8'⟩ := pm_plain hB hM hF hen
      have d1 := pc_narrowPipes (NC_BA a8 hB.wb) (NB_BA hB.wb) hen a7
      have e := same_V (NB_BA hB.wb) a3 b3' a6 b5' a4 b4'
      have hF' := FI_CS hF b7'
      obtain ⟨x, S2, N2, M2, g1, g2, g3, g4, g5⟩ := help (K := K) (P := P) (Hs := Hs) (T := T) (R := R) hB hL hen a3 a6 a4 a2 x2 (A 1 0) FU FU 0 0 0 0 S' N' M' (by omega) (by rw [FU_eq]; omega) (by rw [FU_eq]; omega) (by rw [b7'.1 0 (by decide)]; exact hM) hF'.1 hF'.2.2.1 hF'.2.2.2 (by omega) (Nat.le_refl _)
      rw [if_pos rfl] at g1 g2
      rw [a1, b3_some, d1, b1_some, b1', b2_some, ← e, show (0 : Int32) = nI 0 from rfl, g1, g2]
      exact ⟨_, _, _, _, rfl, rfl, INV_fl hI (fun j hj => by rw [g4 j hj, b7'.1 j hj]) (fun j hj => by rw [g5 j hj, b7'.2 j (by omega) (by omega)]) g3⟩
    · rw [if_neg c2, if_pos rfl, if_pos rfl]
      exact ⟨_, _, _, _, rfl, rfl, hI⟩
  · rw [if_neg c1, if_pos rfl, if_pos rfl]
    exact ⟨_, _, _, _, rfl, rfl, hI⟩
