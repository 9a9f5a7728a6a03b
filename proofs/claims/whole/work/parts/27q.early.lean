/-! PURE PART: earliest. -/
/-! earliest -/
theorem cx_mono (G : Lay) (B : Nat → Nat) {a b : Nat} (h : a ≤ b) (e : Nat) : cx G B a e ≤ cx G B b e := by
  unfold cx
  split
  · by_cases c : e / 16 < G 1 0 ∧ G 4 (e / 16) ≠ 0 ∧ e % 16 + G 6 (e / 16) ≤ a
    · rw [if_pos c, if_pos ⟨c.1, c.2.1, by omega⟩]; omega
    · rw [if_neg c]; omega
  · split
    · by_cases c : (e - 160) / 16 < G 0 0 ∧ e % 16 < a
      · rw [if_pos c, if_pos ⟨c.1, by omega⟩]; omega
      · rw [if_neg c]; omega
    · omega
theorem Fe.mono {G : Lay} {B : Nat → Nat} {a b : Nat} {f : Nat → Nat} (h : Fe G B a f) (hab : a ≤ b) : Fe G B b f := ⟨fun e he => Nat.le_trans (h.1 e he) (cx_mono G B hab e), h.2⟩
theorem FI_CS {M M' : Mm} (h : FI M) (hc : CS M M') : FI M' := ⟨by rw [hc.2 7 (by decide) (by decide)]; exact h.1, by rw [hc.2 8 (by decide) (by decide)]; exact h.2.1, by rw [hc.2 9 (by decide) (by decide)]; exact h.2.2.1, by rw [hc.2 10 (by decide) (by decide)]; exact h.2.2.2⟩
theorem early {A : Lay} (hB : LB A) {N : Mm} (hL : LI N A) {w : Nat} (hw : w < 2 ^ 31) : ∀ (r n n2 t V : Nat) (S M : Mm) (f : Nat → Nat), t + r = 16 → r < n → r < n2 → V ≤ 1621 → Fe A (BA A) t f → dv (ns A) (nd A) (fv f) 120 = ((V : Nat) : Int) → LF (S 0) A (BA A) f → f 256 = BA A 256 → MI (M 0) A → FI M → ∃ (x : Int32) (S' M' : Mm), F_X3_leastTickFor_16 n S N (nI w) (nI V) (nI t) = some (x, S') ∧ F_X5_earliest_28 n2 M (nI w) (nI t) = some (x, M') ∧ CS M M' := by
  intro r
  induction r with
  | zero =>
    intro n n2 t V S M f ht hn hn2 hV hE hv hF h0 hM hI
    obtain ⟨n, rfl⟩ : ∃ m, n = m + 1 := ⟨n - 1, by omega⟩
    obtain ⟨n2, rfl⟩ : ∃ m, n2 = m + 1 := ⟨n2 - 1, by omega⟩
    have e : t = 16 := by omega
    show ∃ x S' M', F_X3_leastTickForB_16 (F_X3_leastTickFor_16 n) S N (nI w) (nI V) (nI t) = _ ∧ F_X5_earliestB_28 (F_X5_earliest_28 n2) M (nI w) (nI t) = _ ∧ _
    unfold F_X3_leastTickForB_16 F_X5_earliestB_28 F_X5_earliest_49
    rw [e, if_pos (by decide), if_pos (by decide), if_pos (by decide)]
    exact ⟨_, _, _, rfl, rfl, CS.refl M⟩
  | succ r ih =>
    intro n n2 t V S M f ht hn hn2 hV hE hv hF h0 hM hI
    obtain ⟨n, rfl⟩ : ∃ m, n = m + 1 := ⟨n - 1, by omega⟩
    obtain ⟨n2, rfl⟩ : ∃ m, n2 = m + 1 := ⟨n2 - 1, by omega⟩
    show ∃ x S' M', F_X3_leastTickForB_16 (F_X3_leastTickFor_16 n) S N (nI w) (nI V) (nI t) = _ ∧ F_X5_earliestB_28 (F_X5_earliest_28 n2) M (nI w) (nI t) = _ ∧ _
    unfold F_X3_leastTickForB_16 F_X5_earliestB_28
    have g16 : ¬ (16 : Int32) ≤ nI t := nI_ge (b := 16) (by omega) (by omega)
    obtain ⟨V', S', f', q, T, a1, a2, a3, a4, a5, a6, a7, a8, a9⟩ := pc_moreBy (NC_BA hL hB.wb) (NB_BA hB.wb) (en := t) (by omega) hE hv hF h0
    obtain ⟨V2, M', f2, q2, T2, b1', b2', b3', b4', b5', b6', b7', b8'⟩ := pm_plain hB hM hI (en := t) (by omega)
    have e := same_V (NB_BA hB.wb) a4 b3' a8 b5' a5 b4'
    rw [if_neg g16, if_neg g16, a1, b2_some, b1', b2_some, nI_add, show V + (V' - V) = V' by omega, ← e]
    by_cases c : V' < w
    · rw [if_pos (nI_lt c hw), if_neg (nI_ge c hw), ← nI_succ]
      obtain ⟨x, S2, M2, d1, d2, d3⟩ := ih n n2 (t + 1) V' S' M' f' (by omega) (by omega) (by omega) a3 (a4.mono (by omega)) a5 a6 a7 (by rw [b7'.1 0 (by decide)]; exact hM) (FI_CS hI b7')
      exact ⟨x, S2, M2, d1, d2, b7'.trans d3⟩
    · rw [if_neg (nI_nlt (by omega) (by omega)), if_pos (nI_le (by omega) (by omega))]
      unfold F_X5_earliest_49
      rw [if_neg (show ¬ nI t = (16 : Int32) from fun z => by have := (nI_eq (a := t) (b := 16) (by omega) (by omega)).mp z; omega)]
      exact ⟨_, _, _, rfl, rfl, b7'⟩
theorem early_all {A : Lay} (hB : LB A) {L M : Mm} (hL : LI L A) (hM : MI (M 0) A) (hI : FI M) {w : Nat} (hw : w < 2 ^ 31) (S N : Mm) : ∃ (x : Int32) (S' N' M' : Mm), F_X3_leastTick S N L (nI w) = some (x, S', N') ∧ F_X5_earliest_28 FU M (nI w) (nI 0) = some (x, M') ∧ CS M M' := by
  obtain ⟨N1, d1, -⟩ := pc_copyFrom N L
  have hL1 := LI_copy hB hL d1
  have hNB := NB_BA hB.wb
  obtain ⟨S1, h1, h2⟩ := pc_begin (NC_BA hL1 hB.wb) hNB S
  obtain ⟨k1, k2⟩ := fb_fe hNB 0
  have e256 : N1 0 0 = nI (BA A 256) := by
    rw [show (256 : Nat) = 256 + 0 from rfl, BA_o hB.1]; exact (hL1.2.2.1 0 hB.1).1
  have h21 := hNB.2.2.2.2.2.2
  obtain ⟨x, S2, M2, g1, g2, g3⟩ := early hB hL1 hw 16 FU FU 0 (BA A 256) S1 M (fb (BA A)) (by omega) (by rw [FU_eq]; omega) (by rw [FU_eq]; omega) (by omega) k1 k2 h2 (if_pos rfl) hM hI
  unfold F_X3_leastTick F_X3_leastTickFor
  rw [d1, b1_some, h1, b1_some, show (0 : Int32) = nI 0 from rfl, ck_nI (by omega) (by omega), nI_clamp (by omega), e256, g1, b2_some]
  exact ⟨x, S2, N1, M2, rfl, g2, g3⟩
theorem su_le {g : Nat → Nat} {c : Nat} : ∀ n, (∀ i, i < n → g i ≤ c) → su g n ≤ n * c
  | 0, _ => by show 0 ≤ 0 * c; omega
  | n + 1, h => by
    have := su_le n (fun i hi => h i (by omega))
    have := h n (by omega)
    show su g n + g n ≤ (n + 1) * c
    rw [Nat.succ_mul]
    omega
theorem st_earliest {L K : Mm} {P : Nat → Nat} {Hs : Nat → Mm} {S N T R M : Mm} (h : INV L K P Hs S N T R M) (x1 : Int32) : ∃ (r : Int32) (S' : Mm) (N' : Mm) (M' : Mm), F_X4_earliest L K P Hs S N T R x1 = some (r, S', N') ∧ F_X5_earliest M x1 = some (r, M') ∧ INV L K P Hs S' N' T R M' := by
  have hI := h
  obtain ⟨A, kept, Ah, len, hB, hL, hM, hC, hH, hT, hF⟩ := h
  have hB2 := hB.2.1
  unfold F_X4_earliest F_X5_earliest F_X4_earliest_37
  rw [pc_within, b1_some, pr_in, b1_some]
  by_cases c1 : (-1 : Int32) ≤ x1 ∧ x1 ≤ 120
  · rw [if_pos c1, if_neg (show ¬ (1 : Int32) = 0 by decide), if_neg (show ¬ (1 : Int32) = 0 by decide), pc_allUnits hB hL, pm_all hB hM, b1_some, b1_some]
    by_cases c2 : x1 = -1
    · rw [if_pos c2, c2, if_neg (by decide)]
      have hs : su (A 2) (A 0 0) ≤ A 0 0 * 20 := su_le _ (fun i hi => (hB.2.2.2.1 i hi).1)
      obtain ⟨x, S', N', M', g1, g2, g3⟩ := early_all hB hL hM hF (w := su (A 2) (A 0 0)) (by omega) S N
      rw [g1, b3_some, show (0 : Int32) = nI 0 from rfl, g2]
      exact ⟨_, _, _, _, rfl, rfl, INV_CS hI g3⟩
    · have hx : (0 : Int32) ≤ x1 := by
        have h1 := Int32.le_iff_toInt_le.mp c1.1
        have h2 : x1.toInt ≠ (-1 : Int32).toInt := fun z => c2 (Int32.toInt_inj.mp z)
        have e1 : (-1 : Int32).toInt = -1 := rfl
        have e0 : (0 : Int32).toInt = 0 := rfl
        exact Int32.le_iff_toInt_le.mpr (by omega)
      obtain ⟨w, -, hw, rfl⟩ := rg (a := 0) (b := 120) (by omega) (by omega) ⟨hx, c1.2⟩
      rw [if_neg c2, if_pos hx]
      obtain ⟨x, S', N', M', g1, g2, g3⟩ := early_all hB hL hM hF (w := w) (by omega) S N
      rw [g1, b3_some, show (0 : Int32) = nI 0 from rfl, g2]
      exact ⟨_, _, _, _, rfl, rfl, INV_CS hI g3⟩
  · rw [if_neg c1, if_pos rfl, if_pos rfl]
    exact ⟨_, _, _, _, rfl, rfl, hI⟩
