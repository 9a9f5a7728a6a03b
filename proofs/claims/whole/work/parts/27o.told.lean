/-! PURE PART: a layout's net, told to both sides; come, wanting, withOneMore. -/
/-- bounds of a layout that may be told otherwise -/
def WB (A : Lay) : Prop := 1 ≤ A 0 0 ∧ A 0 0 ≤ 6 ∧ A 1 0 ≤ 10 ∧ (∀ p, p < A 0 0 → A 2 p ≤ 1000000 ∧ A 3 p ≤ 1000000) ∧ A 2 0 ≤ 21 ∧ ∀ k, k < A 1 0 → A 4 k < A 0 0 ∧ A 5 k < A 0 0 ∧ A 4 k ≠ A 5 k ∧ 1 ≤ A 6 k ∧ A 6 k ≤ 4 ∧ A 7 k ≤ 10 ∧ A 8 k ≤ 15 ∧ A 9 k ≤ 15
theorem LB.wb {A : Lay} (h : LB A) : WB A := by
  obtain ⟨h1, h2, h3, h4, h5⟩ := h
  refine ⟨h1, h2, h3, fun p hp => ?_, ?_, fun k hk => ?_⟩
  · have := h4 p hp; omega
  · have := h4 0 h1; omega
  · obtain ⟨a1, a2, a3, a4, a5, a6, a7, a8, a9⟩ := h5 k hk
    exact ⟨a1, a2, a3, a4, a5, by omega, a8, a9⟩
/-- what each way takes -/
def BA (A : Lay) : Nat → Nat := fun e => if e < 160 then (if e / 16 < A 1 0 ∧ A 8 (e / 16) ≤ e % 16 ∧ e % 16 ≤ A 9 (e / 16) then A 7 (e / 16) else 0) else if e < 256 then (if e < 176 then 1000000 else if (e - 160) / 16 < A 0 0 then A 3 ((e - 160) / 16) else 0) else if e - 256 < A 0 0 then A 2 (e - 256) else 0
theorem BA_p {A : Lay} {k t : Nat} (hk : k < A 1 0) (h10 : k < 10) (ht : t < 16) : BA A (16 * k + t) = if A 8 k ≤ t ∧ t ≤ A 9 k then A 7 k else 0 := by
  unfold BA
  rw [if_pos (by omega), show (16 * k + t) / 16 = k by omega, show (16 * k + t) % 16 = t by omega]
  by_cases c : A 8 k ≤ t ∧ t ≤ A 9 k
  · rw [if_pos c, if_pos ⟨hk, c.1, c.2⟩]
  · rw [if_neg c, if_neg (fun z => c z.2)]
theorem BA_o {A : Lay} {p : Nat} (hp : p < A 0 0) : BA A (256 + p) = A 2 p := by
  unfold BA
  rw [if_neg (by omega), if_neg (by omega), show 256 + p - 256 = p by omega, if_pos hp]
theorem BA_w {A : Lay} {p t : Nat} (hp : p < A 0 0) (h1 : 1 ≤ p) (h6 : p < 6) (ht : t < 16) : BA A (160 + 16 * p + t) = A 3 p := by
  unfold BA
  rw [if_neg (by omega), if_pos (by omega), if_neg (by omega), show (160 + 16 * p + t - 160) / 16 = p by omega, if_pos hp]
theorem BA_e {A : Lay} {t : Nat} (ht : t < 16) : BA A (160 + t) = 1000000 := by
  unfold BA
  rw [if_neg (by omega), if_pos (by omega), if_pos (by omega)]
theorem NB_BA {A : Lay} (h : WB A) : NB A (BA A) := by
  obtain ⟨h1, h2, h3, h4, h0, h5⟩ := h
  refine ⟨h1, h2, h3, fun k hk => ?_, fun e => ?_, fun e he => ?_, ?_⟩
  · obtain ⟨a1, a2, a3, a4, a5, -⟩ := h5 k hk
    exact ⟨a1, a2, a3, a4, a5⟩
  · unfold BA
    split
    · split
      · rename_i c; have := h5 _ c.1; omega
      · omega
    · split
      · split
        · omega
        · split
          · rename_i c; have := h4 _ c; omega
          · omega
      · split
        · rename_i c; have := h4 _ c; omega
        · omega
  · unfold BA
    rw [if_pos he]
    split
    · rename_i c; have := h5 _ c.1; omega
    · omega
  · rw [show (256 : Nat) = 256 + 0 from rfl, BA_o h1]; exact h0
theorem NC_BA {N : Mm} {A : Lay} (hL : LI N A) (h : WB A) : NC N A (BA A) := by
  have h2 := h.2.1
  have h3 := h.2.2.1
  refine ⟨hL.1, hL.2.1, fun k hk j hj => hL.2.2.2 k hk j (by omega), fun k t hk ht => ?_, fun p hp => ?_, fun p t h1 hp ht => ?_⟩
  · have e8 : N 2 (k * 6 + 4) = nI (A 8 k) := hL.2.2.2 k hk 4 (by omega)
    have e9 : N 2 (k * 6 + 5) = nI (A 9 k) := hL.2.2.2 k hk 5 (by omega)
    have e7 : N 2 (k * 6 + 3) = nI (A 7 k) := hL.2.2.2 k hk 3 (by omega)
    have hb := h.2.2.2.2.2 k hk
    unfold F_X1_boundIn
    rw [show (4 : Int32) = nI 4 from rfl, show (5 : Int32) = nI 5 from rfl, show (3 : Int32) = nI 3 from rfl, pc_partOf N (by omega) (by omega), b1_some, pc_partOf N (by omega) (by omega), b1_some, pc_partOf N (by omega) (by omega), e8, e9, e7, pc_within, b1_some, BA_p hk (by omega) ht]
    by_cases c : A 8 k ≤ t ∧ t ≤ A 9 k
    · rw [if_pos c, if_pos (show nI (A 8 k) ≤ nI t ∧ nI t ≤ nI (A 9 k) from ⟨nI_le c.1 (by omega), nI_le c.2 (by omega)⟩), if_neg (by decide), b1_some]
    · rw [if_neg c, if_neg (show ¬ (nI (A 8 k) ≤ nI t ∧ nI t ≤ nI (A 9 k)) from fun z => c ⟨(nI_leI (by omega) (by omega)).mp z.1, (nI_leI (by omega) (by omega)).mp z.2⟩), if_pos rfl]
      rfl
  · rw [BA_o hp]; exact (hL.2.2.1 p hp).1
  · rw [BA_w hp h1 (by omega) ht]; exact (hL.2.2.1 p hp).2
/-- the same places, the same pipes but for bounds and openings -/
def SA (A A' : Lay) : Prop := A' 0 0 = A 0 0 ∧ A' 1 0 = A 1 0 ∧ (∀ k, A' 4 k = A 4 k) ∧ (∀ k, A' 5 k = A 5 k) ∧ ∀ k, A' 6 k = A 6 k
theorem MC_BA {M : Mm} {A A' : Lay} {en : Nat} (hB : LB A) (hM : MI (M 0) A) (hA : SA A A') (hW : WB A') (hU : ∀ p, p < A 0 0 → F_X5_unitsOf M (nI p) = some (nI (A' 2 p))) (hR : ∀ p, 1 ≤ p → p < A 0 0 → F_X5_roomOf M (nI p) = some (nI (A' 3 p))) (hO : ∀ k t, k < A 1 0 → t < 16 → F_X5_isOpen M (nI k) (nI t) = some (if (A' 8 k ≤ t ∧ t ≤ A' 9 k) ∧ 0 < A' 7 k ∧ t + A 6 k ≤ en then 1 else 0)) (hX : ∀ k, k < A 1 0 → 0 < A' 7 k → M 0 (14 + 6 * k + 3) + (if nI k = M 12 8 then 1 else 0) = nI (A' 7 k)) (h5 : M 12 5 = nI en) : MC M A' (BA A') en := by
  obtain ⟨a0, a1, a4, a5, a6⟩ := hA
  have h2 := hB.2.1
  have h3 := hB.2.2.1
  refine ⟨by rw [a0]; exact hM.1, by rw [a1]; exact hM.2.1, fun k hk j hj => ?_, fun p hp => ?_, fun p t hp ht => ?_, fun k t hk ht => ?_, fun k t hk ht hb => ?_, h5, fun t ht => BA_e ht⟩
  · rw [a1] at hk
    have := hM.2.2.2 k hk j (by omega)
    rw [this]
    rcases (show j = 0 ∨ j = 1 ∨ j = 2 by omega) with rfl | rfl | rfl
    · rw [show A' (4 + 0) k = A 4 k from a4 k]
    · rw [show A' (4 + 1) k = A 5 k from a5 k]
    · rw [show A' (4 + 2) k = A 6 k from a6 k]
  · rw [BA_o hp]; rw [a0] at hp; exact hU p hp
  · by_cases c : 1 ≤ p
    · rw [BA_w hp c (by omega) ht]; rw [a0] at hp; exact hR p c hp
    · have e : p = 0 := by omega
      rw [e, show 160 + 16 * 0 + t = 160 + t by omega, BA_e ht]
      unfold F_X5_roomOf
      rw [if_pos (show nI 0 = (0 : Int32) from rfl)]
      rfl
  · have hk' := hk
    rw [a1] at hk
    rw [hO k t hk ht, BA_p hk' (by omega) ht, a6]
    by_cases c : A' 8 k ≤ t ∧ t ≤ A' 9 k
    · rw [if_pos c]
      by_cases d : 0 < A' 7 k ∧ t + A 6 k ≤ en
      · rw [if_pos d, if_pos ⟨c, d⟩]
      · rw [if_neg d, if_neg (fun z => d z.2)]
    · rw [if_neg c, if_neg (fun z => c z.1), if_neg (fun z => by omega)]
  · rw [BA_p hk (by omega) ht] at hb ⊢
    rw [a1] at hk
    by_cases c : A' 8 k ≤ t ∧ t ≤ A' 9 k
    · rw [if_pos c] at hb ⊢; exact hX k hk hb
    · rw [if_neg c] at hb; omega
/-! the reference's words, where no place is endless -/
section TOLD
variable {M : Mm} {A : Lay} {en : Nat}
theorem pm_unitsOf (hB : LB A) (hM : MI (M 0) A) (h10 : M 12 10 = -1) {p : Nat} (hp : p < A 0 0) : F_X5_unitsOf M (nI p) = some (nI (A 2 p) + (if nI p = M 12 9 then 1 else 0)) := by
  have h2 := hB.2.1
  unfold F_X5_unitsOf
  rw [h10, if_pos (by decide), show (2 : Int32) = nI 2 from rfl, pk_mul, nI_add, ck_nI (by omega) (by omega), nI_clamp (by omega), (hM.2.2.1 p hp).1]
  by_cases c : nI p = M 12 9
  · rw [if_pos c, if_pos c]
  · rw [if_neg c, if_neg c]
theorem pm_roomOf (hB : LB A) (hM : MI (M 0) A) (h10 : M 12 10 = -1) {p : Nat} (h1 : 1 ≤ p) (hp : p < A 0 0) : F_X5_roomOf M (nI p) = some (nI (A 3 p)) := by
  have h2 := hB.2.1
  unfold F_X5_roomOf
  rw [if_neg (nI_ne0 (by omega) (by omega)), h10, if_neg (nI_n1 (by omega)), if_pos (by decide), show (2 : Int32) = nI 2 from rfl, pk_mul, nI_add, show (1 : Int32) = nI 1 from rfl, nI_add, ck_nI (by omega) (by omega), nI_clamp (by omega), (hM.2.2.1 p hp).2]
theorem pm_isOpen_31 (hB : LB A) (hM : MI (M 0) A) (h5 : M 12 5 = nI en) (hen : en ≤ 15) {k t : Nat} (hk : k < A 1 0) (ht : t < 16) : F_X5_isOpen_31 M (nI k) (nI t) 1 = some (if nI k ≠ M 12 7 ∧ t + A 6 k ≤ en then 1 else 0) := by
  have h3 := hB.2.2.1
  have hb := hB.2.2.2.2 k hk
  have e6 : M 0 (14 + 6 * k + 2) = nI (A 6 k) := hM.2.2.2 k hk 2 (by omega)
  unfold F_X5_isOpen_31
  rw [if_neg (by decide)]
  by_cases c : nI k = M 12 7
  · rw [if_pos c, if_neg (fun z => z.1 c)]
  · rw [if_neg c, show (2 : Int32) = nI 2 from rfl, pm_pi M (by omega) (by omega), b1_some, e6, nI_add, h5]
    by_cases d : en < t + A 6 k
    · rw [if_pos (nI_lt d (by omega)), if_neg (fun z => by omega)]
    · rw [if_neg (nI_nlt (by omega) (by omega)), if_pos ⟨c, by omega⟩]
theorem pm_isOpen (hB : LB A) (hM : MI (M 0) A) (h10 : M 12 10 = -1) (h5 : M 12 5 = nI en) (hen : en ≤ 15) {k t : Nat} (hk : k < A 1 0) (ht : t < 16) : F_X5_isOpen M (nI k) (nI t) = some (if (A 8 k ≤ t ∧ t ≤ A 9 k) ∧ nI k ≠ M 12 7 ∧ t + A 6 k ≤ en then 1 else 0) := by
  have h3 := hB.2.2.1
  have hb := hB.2.2.2.2 k hk
  have e8 : M 0 (14 + 6 * k + 4) = nI (A 8 k) := hM.2.2.2 k hk 4 (by omega)
  have e9 : M 0 (14 + 6 * k + 5) = nI (A 9 k) := hM.2.2.2 k hk 5 (by omega)
  unfold F_X5_isOpen F_X5_isOpen_26
  rw [h10, if_neg (by decide), show (4 : Int32) = nI 4 from rfl, show (5 : Int32) = nI 5 from rfl, pm_pi M (by omega) (by omega), b1_some, pm_pi M (by omega) (by omega), b1_some, e8, e9, pr_in, b1_some, pm_isOpen_31 hB hM h5 hen hk ht]
  by_cases c : A 8 k ≤ t ∧ t ≤ A 9 k
  · rw [if_pos (show nI (A 8 k) ≤ nI t ∧ nI t ≤ nI (A 9 k) from ⟨nI_le c.1 (by omega), nI_le c.2 (by omega)⟩), if_neg (by decide)]
    by_cases d : nI k ≠ M 12 7 ∧ t + A 6 k ≤ en
    · rw [if_pos d, if_pos ⟨c, d⟩]
    · rw [if_neg d, if_neg (fun z => d z.2)]
  · rw [if_neg (show ¬ (nI (A 8 k) ≤ nI t ∧ nI t ≤ nI (A 9 k)) from fun z => c ⟨(nI_leI (by omega) (by omega)).mp z.1, (nI_leI (by omega) (by omega)).mp z.2⟩), if_pos rfl, if_neg (fun z => c z.1)]
    unfold F_X5_isOpen_31
    rw [if_pos rfl]
theorem SA.refl (A : Lay) : SA A A := ⟨rfl, rfl, fun _ => rfl, fun _ => rfl, fun _ => rfl⟩
theorem SA_S (A : Lay) {i0 : Nat} (p v : Nat) (h : i0 = 2 ∨ i0 = 3 ∨ 7 ≤ i0) : SA A (lyS A i0 p v) := ⟨lyS_n A v (Or.inl (by omega)), lyS_n A v (Or.inl (by omega)), fun k => lyS_n A v (Or.inl (by omega)), fun k => lyS_n A v (Or.inl (by omega)), fun k => lyS_n A v (Or.inl (by omega))⟩
/-- plain -/
theorem MC_plain (hB : LB A) (hM : MI (M 0) A) (h7 : M 12 7 = -1) (h8 : M 12 8 = -1) (h9 : M 12 9 = -1) (h10 : M 12 10 = -1) (h5 : M 12 5 = nI en) (hen : en ≤ 15) : MC M A (BA A) en := by
  have h2 := hB.2.1
  have h3 := hB.2.2.1
  refine MC_BA hB hM (SA.refl A) hB.wb (fun p hp => ?_) (fun p h1 hp => pm_roomOf hB hM h10 h1 hp) (fun k t hk ht => ?_) (fun k hk h => ?_) h5
  · rw [pm_unitsOf hB hM h10 hp, h9, if_neg (nI_n1 (by omega)), Int32.add_zero]
  · have hb := hB.2.2.2.2 k hk
    have hn : nI k ≠ M 12 7 := by rw [h7]; exact nI_n1 (by omega)
    rw [pm_isOpen hB hM h10 h5 hen hk ht]
    by_cases c : (A 8 k ≤ t ∧ t ≤ A 9 k) ∧ t + A 6 k ≤ en
    · rw [if_pos ⟨c.1, hn, c.2⟩, if_pos ⟨c.1, by omega, c.2⟩]
    · rw [if_neg (fun z => c ⟨z.1, z.2.2⟩), if_neg (fun z => c ⟨z.1, z.2.2⟩)]
  · rw [h8, if_neg (nI_n1 (by omega)), Int32.add_zero]; exact hM.2.2.2 k hk 3 (by omega)
/-- without a pipe -/
theorem MC_less (hB : LB A) (hM : MI (M 0) A) {k0 : Nat} (hk0 : k0 < A 1 0) (h7 : M 12 7 = nI k0) (h8 : M 12 8 = -1) (h9 : M 12 9 = -1) (h10 : M 12 10 = -1) (h5 : M 12 5 = nI en) (hen : en ≤ 15) (hW : WB (lyS A 7 k0 0)) : MC M (lyS A 7 k0 0) (BA (lyS A 7 k0 0)) en := by
  have h2 := hB.2.1
  have h3 := hB.2.2.1
  refine MC_BA hB hM (SA_S A k0 0 (by omega)) hW (fun p hp => ?_) (fun p h1 hp => ?_) (fun k t hk ht => ?_) (fun k hk h => ?_) h5
  · rw [pm_unitsOf hB hM h10 hp, h9, if_neg (nI_n1 (by omega)), Int32.add_zero, lyS_n A 0 (Or.inl (by omega))]
  · rw [lyS_n A 0 (Or.inl (by omega))]; exact pm_roomOf hB hM h10 h1 hp
  · have hb := hB.2.2.2.2 k hk
    rw [pm_isOpen hB hM h10 h5 hen hk ht, h7, lyS_n A 0 (i := 8) (Or.inl (by omega)), lyS_n A 0 (i := 9) (Or.inl (by omega))]
    by_cases c : k = k0
    · rw [c, lyS_s, if_neg (fun z => z.2.1 rfl), if_neg (fun z => by omega)]
    · have hn : nI k ≠ nI k0 := fun z => c ((nI_eq (by omega) (by omega)).mp z)
      rw [lyS_n A 0 (Or.inr c)]
      by_cases d : (A 8 k ≤ t ∧ t ≤ A 9 k) ∧ t + A 6 k ≤ en
      · rw [if_pos ⟨d.1, hn, d.2⟩, if_pos ⟨d.1, by omega, d.2⟩]
      · rw [if_neg (fun z => d ⟨z.1, z.2.2⟩), if_neg (fun z => d ⟨z.1, z.2.2⟩)]
  · by_cases c : k = k0
    · rw [c, lyS_s] at h; omega
    · rw [h8, if_neg (nI_n1 (by omega)), Int32.add_zero, lyS_n A 0 (Or.inr c)]; exact hM.2.2.2 k hk 3 (by omega)
/-- a wider pipe -/
theorem MC_wider (hB : LB A) (hM : MI (M 0) A) {k0 : Nat} (hk0 : k0 < A 1 0) (h7 : M 12 7 = -1) (h8 : M 12 8 = nI k0) (h9 : M 12 9 = -1) (h10 : M 12 10 = -1) (h5 : M 12 5 = nI en) (hen : en ≤ 15) (hW : WB (lyS A 7 k0 (A 7 k0 + 1))) : MC M (lyS A 7 k0 (A 7 k0 + 1)) (BA (lyS A 7 k0 (A 7 k0 + 1))) en := by
  have h2 := hB.2.1
  have h3 := hB.2.2.1
  refine MC_BA hB hM (SA_S A k0 _ (by omega)) hW (fun p hp => ?_) (fun p h1 hp => ?_) (fun k t hk ht => ?_) (fun k hk h => ?_) h5
  · rw [pm_unitsOf hB hM h10 hp, h9, if_neg (nI_n1 (by omega)), Int32.add_zero, lyS_n A _ (Or.inl (by omega))]
  · rw [lyS_n A _ (Or.inl (by omega))]; exact pm_roomOf hB hM h10 h1 hp
  · have hb := hB.2.2.2.2 k hk
    have hn : nI k ≠ M 12 7 := by rw [h7]; exact nI_n1 (by omega)
    have h7p : 0 < lyS A 7 k0 (A 7 k0 + 1) 7 k := by
      by_cases c : k = k0
      · rw [c, lyS_s]; omega
      · rw [lyS_n A _ (Or.inr c)]; omega
    rw [pm_isOpen hB hM h10 h5 hen hk ht, lyS_n A _ (i := 8) (Or.inl (by omega)), lyS_n A _ (i := 9) (Or.inl (by omega))]
    by_cases d : (A 8 k ≤ t ∧ t ≤ A 9 k) ∧ t + A 6 k ≤ en
    · rw [if_pos ⟨d.1, hn, d.2⟩, if_pos ⟨d.1, h7p, d.2⟩]
    · rw [if_neg (fun z => d ⟨z.1, z.2.2⟩), if_neg (fun z => d ⟨z.1, z.2.2⟩)]
  · have e7 : M 0 (14 + 6 * k + 3) = nI (A 7 k) := hM.2.2.2 k hk 3 (by omega)
    rw [h8, e7]
    by_cases c : k = k0
    · rw [c, if_pos rfl, lyS_s, ← nI_succ]
    · rw [if_neg (fun z => c ((nI_eq (by omega) (by omega)).mp z)), Int32.add_zero, lyS_n A _ (Or.inr c)]
/-- a unit more -/
theorem MC_more (hB : LB A) (hM : MI (M 0) A) {p0 : Nat} (hp0 : p0 < A 0 0) (h7 : M 12 7 = -1) (h8 : M 12 8 = -1) (h9 : M 12 9 = nI p0) (h10 : M 12 10 = -1) (h5 : M 12 5 = nI en) (hen : en ≤ 15) (hW : WB (lyS A 2 p0 (A 2 p0 + 1))) : MC M (lyS A 2 p0 (A 2 p0 + 1)) (BA (lyS A 2 p0 (A 2 p0 + 1))) en := by
  have h2 := hB.2.1
  have h3 := hB.2.2.1
  refine MC_BA hB hM (SA_S A p0 _ (by omega)) hW (fun p hp => ?_) (fun p h1 hp => ?_) (fun k t hk ht => ?_) (fun k hk h => ?_) h5
  · rw [pm_unitsOf hB hM h10 hp, h9]
    by_cases c : p = p0
    · rw [c, if_pos rfl, lyS_s, ← nI_succ]
    · rw [if_neg (fun z => c ((nI_eq (by omega) (by omega)).mp z)), Int32.add_zero, lyS_n A _ (Or.inr c)]
  · rw [lyS_n A _ (Or.inl (by omega))]; exact pm_roomOf hB hM h10 h1 hp
  · have hb := hB.2.2.2.2 k hk
    have hn : nI k ≠ M 12 7 := by rw [h7]; exact nI_n1 (by omega)
    rw [pm_isOpen hB hM h10 h5 hen hk ht, lyS_n A _ (i := 8) (Or.inl (by omega)), lyS_n A _ (i := 9) (Or.inl (by omega)), lyS_n A _ (i := 7) (Or.inl (by omega))]
    by_cases d : (A 8 k ≤ t ∧ t ≤ A 9 k) ∧ t + A 6 k ≤ en
    · rw [if_pos ⟨d.1, hn, d.2⟩, if_pos ⟨d.1, by omega, d.2⟩]
    · rw [if_neg (fun z => d ⟨z.1, z.2.2⟩), if_neg (fun z => d ⟨z.1, z.2.2⟩)]
  · rw [h8, if_neg (nI_n1 (by omega)), Int32.add_zero, lyS_n A _ (Or.inl (by omega))]; exact hM.2.2.2 k hk 3 (by omega)
end TOLD
/-- both sides' answers: the same number -/
theorem same_V {G : Lay} {B : Nat → Nat} {en : Nat} {f1 f2 : Nat → Nat} {q1 q2 V1 V2 : Nat} {T1 T2 : Lay} (hN : NB G B) (e1 : Fe G B en f1) (e2 : Fe G B en f2) (h1 : FIN G B en f1 q1 T1) (h2 : FIN G B en f2 q2 T2) (v1 : dv (ns G) (nd G) (fv f1) 120 = ((V1 : Nat) : Int)) (v2 : dv (ns G) (nd G) (fv f2) 120 = ((V2 : Nat) : Int)) : V1 = V2 := by
  have := fin_val hN e1 e2 h1 h2
  omega
theorem pc_most {L : Mm} {A : Lay} (hB : LB A) (hL : LI L A) {en : Nat} (hen : en ≤ 15) (S N : Mm) : ∃ V S' N' f q T, F_X3_most S N L (nI en) = some (nI V, S', N') ∧ V ≤ 1621 ∧ Fe A (BA A) en f ∧ dv (ns A) (nd A) (fv f) 120 = ((V : Nat) : Int) ∧ LF (S' 0) A (BA A) f ∧ FIN A (BA A) en f q T ∧ SL A S' q T ∧ LI N' A := by
  obtain ⟨N1, c1, -⟩ := pc_copyFrom N L
  have hL1 := LI_copy hB hL c1
  obtain ⟨V, S', f, q, T, h1, h2, h3, h4, h5, h6, h7⟩ := pc_mostBy (NC_BA hL1 hB.wb) (NB_BA hB.wb) hen S
  unfold F_X3_most
  rw [c1, b1_some, h1, b2_some]
  exact ⟨V, S', N1, f, q, T, rfl, h2, h3, h4, h5, h6, h7, hL1⟩
theorem pm_plain {M : Mm} {A : Lay} (hB : LB A) (hM : MI (M 0) A) (hF : FI M) {en : Nat} (hen : en ≤ 15) : ∃ V M' f q T, F_X5_comes M (nI en) = some (nI V, M') ∧ V ≤ 1621 ∧ Fe A (BA A) en f ∧ dv (ns A) (nd A) (fv f) 120 = ((V : Nat) : Int) ∧ FIN A (BA A) en f q T ∧ ML M' q T ∧ CS M M' ∧ M' 12 5 = nI en := by
  refine pm_comes (NB_BA hB.wb) hen (MC_plain hB (by rw [va_up_ne _ _ (by decide)]; exact hM) ?_ ?_ ?_ ?_ ?_ hen)
  · rw [va_up_self, pk_un (by decide)]; exact hF.1
  · rw [va_up_self, pk_un (by decide)]; exact hF.2.1
  · rw [va_up_self, pk_un (by decide)]; exact hF.2.2.1
  · rw [va_up_self, pk_un (by decide)]; exact hF.2.2.2
  · rw [va_up_self, pk_us]
theorem INV_CS {L K : Mm} {P : Nat → Nat} {Hs : Nat → Mm} {S N T R M M' S' N' R' : Mm} (h : INV L K P Hs S N T R M) (hc : CS M M') : INV L K P Hs S' N' T R' M' :=
  INV_M h (hc.1 0 (by decide)) (hc.1 1 (by decide)) (hc.1 4 (by decide)) (fun j hj => hc.2 j (by omega) (by omega))
/-- the reference's flags set back -/
theorem pm_asIs (M : Mm) : ∃ M', F_X5_asIs M = some M' ∧ (∀ q, q ≠ 12 → M' q = M q) ∧ FI M' ∧ ∀ j, j < 7 → M' 12 j = M 12 j := by
  unfold F_X5_asIs
  rw [sv_eq, sv_eq, sv_eq, sv_eq]
  refine ⟨_, rfl, fun q hq => ?_, ⟨?_, ?_, ?_, ?_⟩, fun j hj => ?_⟩
  · rw [va_up_ne _ _ hq, va_up_ne _ _ hq, va_up_ne _ _ hq, va_up_ne _ _ hq]
  · rw [va_up_self, pk_un (by decide), va_up_self, pk_un (by decide), va_up_self, pk_un (by decide), va_up_self, pk_us]
  · rw [va_up_self, pk_un (by decide), va_up_self, pk_un (by decide), va_up_self, pk_us]
  · rw [va_up_self, pk_un (by decide), va_up_self, pk_us]
  · rw [va_up_self, pk_us]
  · rw [va_up_self, pk_un (by omega), va_up_self, pk_un (by omega), va_up_self, pk_un (by omega), va_up_self, pk_un (by omega)]
/-- and the relation holds again -/
theorem INV_asIs {L K : Mm} {P : Nat → Nat} {Hs : Nat → Mm} {S N T R M M1 M' S' N' R' : Mm} (h : INV L K P Hs S N T R M) (hc : ∀ q, q < 6 → M1 q = M q) (hc2 : ∀ j, j < 5 → M1 12 j = M 12 j) (he : F_X5_asIs M1 = some M') : INV L K P Hs S' N' T R' M' := by
  obtain ⟨M2, e, e1, e2, e3⟩ := pm_asIs M1
  rw [e] at he
  cases he
  have hF : FI M := by
    obtain ⟨A, kept, Ah, len, hB, hL, hM, hC, hH, hT, hF⟩ := h
    exact hF
  have g := h
  obtain ⟨A, kept, Ah, len, hB, hL, hM, hC, hH, hT, -⟩ := h
  refine ⟨A, kept, Ah, len, hB, hL, by rw [e1 0 (by decide), hc 0 (by decide)]; exact hM, hC, ⟨by rw [e3 0 (by decide), hc2 0 (by decide)]; exact hH.1, fun i hi => ?_⟩, ⟨hT.1, hT.2.1, by rw [e3 1 (by decide), hc2 1 (by decide)]; exact hT.2.2.1, by rw [e1 4 (by decide), hc 4 (by decide)]; exact hT.2.2.2⟩, e2⟩
  rw [e1 1 (by decide), hc 1 (by decide)]; exact hH.2 i hi
theorem tick_of {x : Int32} (h : (0 : Int32) ≤ x ∧ x ≤ 15) : ∃ t, t ≤ 15 ∧ x = nI t := by
  obtain ⟨t, -, h1, h2⟩ := rg (a := 0) (b := 15) (by omega) (by omega) h
  exact ⟨t, h1, h2⟩
theorem st_come {L K : Mm} {P : Nat → Nat} {Hs : Nat → Mm} {S N T R M : Mm} (h : INV L K P Hs S N T R M) (x1 : Int32) : ∃ (r : Int32) (S' : Mm) (N' : Mm) (M' : Mm), F_X4_come L K P Hs S N T R x1 = some (r, S', N') ∧ F_X5_come M x1 = some (r, M') ∧ INV L K P Hs S' N' T R M' := by
  have hI := h
  obtain ⟨A, kept, Ah, len, hB, hL, hM, hC, hH, hT, hF⟩ := h
  unfold F_X4_come F_X5_come
  rw [pc_isTick, b1_some, pr_in, b1_some]
  by_cases c1 : (0 : Int32) ≤ x1 ∧ x1 ≤ 15
  · rw [if_pos c1, if_neg (show ¬ (1 : Int32) = 0 by decide), if_neg (show ¬ (1 : Int32) = 0 by decide)]
    obtain ⟨en, hen, rfl⟩ := tick_of c1
    obtain ⟨V, S', N', f, q, T1, a1, a2, a3, a4, a5, a6, a7, a8⟩ := pc_most hB hL hen S N
    obtain ⟨V2, M', f2, q2, T2, b1', b2', b3', b4', b5', b6', b7', b8'⟩ := pm_plain hB hM hF hen
    have e := same_V (NB_BA hB.wb) a3 b3' a6 b5' a4 b4'
    rw [a1, b3_some, b1', b2_some, e]
    exact ⟨_, _, _, _, rfl, rfl, INV_CS hI b7'⟩
  · rw [if_neg c1, if_pos rfl, if_pos rfl]
    exact ⟨_, _, _, _, rfl, rfl, hI⟩
/-- a moment that is reached, as each side tells it -/
theorem pc_isWanting {A : Lay} {S N : Mm} {q : Nat} {T : Lay} (h : SL A S q T) {p t : Nat} (hp : p < 6) (ht : t < 16) : (F_X3_isWanting S N (nI p) (nI t) = some 1 ∧ RE q T (16 * p + t)) ∨ (F_X3_isWanting S N (nI p) (nI t) = some 0 ∧ ¬ RE q T (16 * p + t)) := by
  unfold F_X3_isWanting
  rw [show (16 : Int32) = nI 16 from rfl, pk_mul, nI_add, ck_nI (by omega) (by omega), nI_clamp (by omega), show p * 16 + t = 16 * p + t by omega]
  rcases h.2.2.2 (16 * p + t) (by omega) with ⟨c1, c2⟩ | ⟨c1, c2, c3⟩
  · rw [c1, if_pos rfl]; exact Or.inr ⟨rfl, c2⟩
  · have := (live_lt c3.2).1
    rw [c2, if_neg (nI_n1 (by omega))]; exact Or.inl ⟨rfl, c1⟩
theorem pm_back {G : Lay} {B : Nat → Nat} {en : Nat} {f : Nat → Nat} {M : Mm} {q : Nat} {T : Lay} (hR : SR G B en f q T) (h : ML M q T) {u : Nat} (hu : u < 96) : (¬ M 9 u < 0 ∧ 0 ≤ M 9 u ∧ RE q T u) ∨ (M 9 u < 0 ∧ ¬ 0 ≤ M 9 u ∧ ¬ RE q T u) := by
  rcases h.2.2.2 u hu with ⟨c1, c2⟩ | ⟨c1, c2, -⟩
  · rw [c1]; exact Or.inr ⟨by decide, by decide, c2⟩
  · have h3 : (if T 3 u = 120 then u else T 3 u) < 2 ^ 31 := by
      obtain ⟨g6, -⟩ := SR_w hR hu c1
      rcases RE_lt hR g6 with e | e
      · rw [if_pos e]; omega
      · rw [if_neg (by omega)]; omega
    rw [c2]; exact Or.inl ⟨nI_pos h3, nI_pos' h3, c1⟩
theorem st_wanting {L K : Mm} {P : Nat → Nat} {Hs : Nat → Mm} {S N T R M : Mm} (h : INV L K P Hs S N T R M) (x1 : Int32) (x2 : Int32) (x3 : Int32) : ∃ (r : Int32) (S' : Mm) (N' : Mm) (M' : Mm), F_X4_wanting L K P Hs S N T R x1 x2 x3 = some (r, S', N') ∧ F_X5_wanting M x1 x2 x3 = some (r, M') ∧ INV L K P Hs S' N' T R M' := by
  have hI := h
  obtain ⟨A, kept, Ah, len, hB, hL, hM, hC, hH, hT, hF⟩ := h
  have hB2 := hB.2.1
  unfold F_X4_wanting F_X5_wanting
  rw [pc_isTick, b1_some, pr_in, b1_some]
  by_cases c1 : (0 : Int32) ≤ x1 ∧ x1 ≤ 15
  · rw [if_pos c1, if_neg (show ¬ (1 : Int32) = 0 by decide), if_neg (show ¬ (1 : Int32) = 0 by decide), pc_isPlace hL.1, b1_some, pm_isPlace hM.1, b1_some]
    obtain ⟨en, hen, rfl⟩ := tick_of c1
    by_cases c2 : (0 : Int32) ≤ x2 ∧ x2 ≤ nI (A 0 0) - 1
    · rw [if_pos c2, if_neg (show ¬ (1 : Int32) = 0 by decide), if_neg (show ¬ (1 : Int32) = 0 by decide), pc_within, b1_some, pr_in, b1_some]
      obtain ⟨p, hp, rfl⟩ := rg0 (by omega) c2
      by_cases c3 : (0 : Int32) ≤ x3 ∧ x3 ≤ nI en
      · rw [if_pos c3, if_neg (show ¬ (1 : Int32) = 0 by decide), if_neg (show ¬ (1 : Int32) = 0 by decide)]
        obtain ⟨t, -, ht, rfl⟩ := rg (a := 0) (b := en) (by omega) (by omega) c3
        obtain ⟨V, S', N', f, q, T1, a1, a2, a3, a4, a5, a6, a7, a8⟩ := pc_most hB hL hen S N
        obtain ⟨V2, M', f2, q2, T2, b1', b2', b3', b4', b5', b6', b7', b8'⟩ := pm_plain hB hM hF hen
        have e := fin_re (NB_BA hB.wb) a3 b3' a6 b5' (16 * p + t)
        rw [a1, b3_some, b1', b2_some, show (16 : Int32) = nI 16 from rfl, pk_mul, nI_add, ck_nI (by omega) (by omega), nI_clamp (by omega)]
        rcases pc_isWanting (N := N') a7 (p := p) (t := t) (by omega) (by omega) with ⟨w1, w2⟩ | ⟨w1, w2⟩
        · rcases pm_back b5'.1 b6' (u := 16 * p + t) (by omega) with ⟨m1, m2, m3⟩ | ⟨m1, m2, m3⟩
          · rw [w1, b1_some, if_neg (show ¬ (1 : Int32) = 0 by decide), if_neg m1]
            exact ⟨_, _, _, _, rfl, rfl, INV_CS hI b7'⟩
          · exact absurd (e.mp w2) m3
        · rcases pm_back b5'.1 b6' (u := 16 * p + t) (by omega) with ⟨m1, m2, m3⟩ | ⟨m1, m2, m3⟩
          · exact absurd (e.mpr m3) w2
          · rw [w1, b1_some, if_pos rfl, if_pos m1]
            exact ⟨_, _, _, _, rfl, rfl, INV_CS hI b7'⟩
      · rw [if_neg c3, if_pos rfl, if_pos rfl]
        exact ⟨_, _, _, _, rfl, rfl, hI⟩
    · rw [if_neg c2, if_pos rfl, if_pos rfl]
      exact ⟨_, _, _, _, rfl, rfl, hI⟩
  · rw [if_neg c1, if_pos rfl, if_pos rfl]
    exact ⟨_, _, _, _, rfl, rfl, hI⟩
/-- a layout with a place's units told otherwise -/
theorem LI_units {L : Mm} {A : Lay} {p v : Nat} (hL : LI L A) : LI (va_up L 0 (upd (L 0) p (nI v))) (lyS A 2 p v) := by
  refine ⟨by rw [va_up_ne _ _ (by decide)]; exact hL.1, by rw [va_up_ne _ _ (by decide)]; exact hL.2.1, fun p' hp' => ?_, fun k hk j hj => ?_⟩
  · have hp' : p' < A 0 0 := hp'
    rw [va_up_self, va_up_ne _ _ (by decide)]
    by_cases e : p' = p
    · rw [e, pk_us, lyS_s, lyS_n A v (Or.inl (by decide))]; exact ⟨rfl, (hL.2.2.1 p (e ▸ hp')).2⟩
    · rw [pk_un e, lyS_n A v (Or.inr e), lyS_n A v (Or.inr e)]; exact hL.2.2.1 p' hp'
  · rw [va_up_ne _ _ (by decide), lyS_n A v (Or.inl (by omega))]; exact hL.2.2.2 k hk j hj
theorem WB_more {A : Lay} (hB : LB A) (p : Nat) (hp : p < A 0 0) : WB (lyS A 2 p (A 2 p + 1)) := by
  obtain ⟨h1, h2, h3, h4, h0, h5⟩ := hB.wb
  have hb := (hB.2.2.2.1 p hp).1
  have h0' := (hB.2.2.2.1 0 h1).1
  refine ⟨h1, h2, h3, fun p' hp' => ⟨?_, ?_⟩, ?_, fun k hk => h5 k hk⟩
  · by_cases e : p' = p
    · rw [e, lyS_s]; omega
    · rw [lyS_n A _ (Or.inr e)]; exact (h4 p' hp').1
  · rw [lyS_n A _ (Or.inl (by omega))]; exact (h4 p' hp').2
  · by_cases e : 0 = p
    · rw [← e, lyS_s]; omega
    · rw [lyS_n A _ (Or.inr e)]; omega
theorem st_withOneMore {L K : Mm} {P : Nat → Nat} {Hs : Nat → Mm} {S N T R M : Mm} (h : INV L K P Hs S N T R M) (x1 : Int32) (x2 : Int32) : ∃ (r : Int32) (S' : Mm) (N' : Mm) (M' : Mm), F_X4_withOneMore L K P Hs S N T R x1 x2 = some (r, S', N') ∧ F_X5_withOneMore M x1 x2 = some (r, M') ∧ INV L K P Hs S' N' T R M' := by
  have hI := h
  obtain ⟨A, kept, Ah, len, hB, hL, hM, hC, hH, hT, hF⟩ := h
  have hB2 := hB.2.1
  unfold F_X4_withOneMore F_X5_withOneMore
  rw [pc_isTick, b1_some, pr_in, b1_some]
  by_cases c1 : (0 : Int32) ≤ x1 ∧ x1 ≤ 15
  · rw [if_pos c1, if_neg (show ¬ (1 : Int32) = 0 by decide), if_neg (show ¬ (1 : Int32) = 0 by decide), pc_isPlace hL.1, b1_some, pm_isPlace hM.1, b1_some]
    obtain ⟨en, hen, rfl⟩ := tick_of c1
    by_cases c2 : (0 : Int32) ≤ x2 ∧ x2 ≤ nI (A 0 0) - 1
    · rw [if_pos c2, if_neg (show ¬ (1 : Int32) = 0 by decide), if_neg (show ¬ (1 : Int32) = 0 by decide), sv_eq]
      obtain ⟨p, hp, rfl⟩ := rg0 (by omega) c2
      obtain ⟨N1, d1, -⟩ := pc_copyFrom N L
      have hL1 := LI_copy hB hL d1
      have hW := WB_more hB p hp
      obtain ⟨V, S', f, q, T1, a1, a2, a3, a4, a5, a6, a7⟩ := pc_mostBy (NC_BA (LI_units (p := p) (v := A 2 p + 1) hL1) hW) (NB_BA hW) hen S
      obtain ⟨V2, M', f2, q2, T2, b1', b2', b3', b4', b5', b6', b7', b8'⟩ := pm_comes (M := va_up M 12 (upd (M 12) 9 (nI p))) (NB_BA hW) hen (MC_more hB (by rw [va_up_ne _ _ (by decide), va_up_ne _ _ (by decide)]; exact hM) hp (by rw [va_up_self, pk_un (by decide), va_up_self, pk_un (by decide)]; exact hF.1) (by rw [va_up_self, pk_un (by decide), va_up_self, pk_un (by decide)]; exact hF.2.1) (by rw [va_up_self, pk_un (by decide), va_up_self, pk_us]) (by rw [va_up_self, pk_un (by decide), va_up_self, pk_un (by decide)]; exact hF.2.2.2) (by rw [va_up_self, pk_us]) hen hW)
      have e := same_V (NB_BA hW) a3 b3' a6 b5' a4 b4'
      obtain ⟨M3, m1, -⟩ := pm_asIs M'
      have hu : N1 0 p = nI (A 2 p) := (hL1.2.2.1 p hp).1
      unfold F_X3_mostWithUnit
      rw [d1, b1_some, ck_nI (by omega) (by omega), ck_nI (by omega) (by omega), sv_eq, nI_clamp (by omega), hu, ← nI_succ, a1, b2_some, b3_some, b1', b2_some, m1, b1_some, e]
      refine ⟨_, _, _, _, rfl, rfl, INV_asIs hI (fun q hq => ?_) (fun j hj => ?_) m1⟩
      · rw [b7'.1 q hq, va_up_ne _ _ (by omega)]
      · rw [b7'.2 j (by omega) (by omega), va_up_self, pk_un (by omega)]
    · rw [if_neg c2, if_pos rfl, if_pos rfl]
      exact ⟨_, _, _, _, rfl, rfl, hI⟩
  · rw [if_neg c1, if_pos rfl, if_pos rfl]
    exact ⟨_, _, _, _, rfl, rfl, hI⟩
