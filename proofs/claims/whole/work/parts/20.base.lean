/-! PURE PART, base: numbers, checks, the abstract layout and the relation of both states. -/
theorem lit_n (n : Nat) : (OfNat.ofNat n : Int32) = nI n := rfl
theorem ck_nI {α : Type} {a n : Nat} {x : Option α} (h : a < n) (hn : n < 2 ^ 31) : ck (nI a) n x = x := by
  unfold ck
  rw [if_neg]
  intro h1
  exact nI_in h hn h1
theorem b1_some {α β : Type} (x : α) (f : α → Option β) : b1 (some x) f = f x := rfl
theorem b2_some {α β γ : Type} (x : α) (y : β) (f : α → β → Option γ) : b2 (some (x, y)) f = f x y := rfl
theorem b3_some {α β γ δ : Type} (x : α) (y : β) (z : γ) (f : α → β → γ → Option δ) : b3 (some (x, y, z)) f = f x y z := rfl
theorem b4_some {α β γ δ ε : Type} (x : α) (y : β) (z : γ) (w : δ) (f : α → β → γ → δ → Option ε) : b4 (some (x, y, z, w)) f = f x y z w := rfl
theorem sv_eq {α β : Type} (x : α) (f : α → Option β) : sv x f = f x := rfl
theorem cz_0 {α : Type} (x : Option α) : cz 0 x = x := by unfold cz; rw [if_pos (Or.inl rfl)]
theorem cz_1 {α : Type} (x : Option α) : cz 1 x = x := by unfold cz; rw [if_pos (Or.inr rfl)]
theorem FU_eq : FU = 1100000 := rfl
/-- places 0, pipes 1, units 2, rooms 3, parts of pipes 4 .. 9 -/
abbrev Lay : Type := Nat → Nat → Nat
def LB (A : Lay) : Prop := 1 ≤ A 0 0 ∧ A 0 0 ≤ 6 ∧ A 1 0 ≤ 10 ∧ (∀ p, p < A 0 0 → A 2 p ≤ 20 ∧ A 3 p ≤ 40) ∧ ∀ k, k < A 1 0 → A 4 k < A 0 0 ∧ A 5 k < A 0 0 ∧ A 4 k ≠ A 5 k ∧ 1 ≤ A 6 k ∧ A 6 k ≤ 4 ∧ 1 ≤ A 7 k ∧ A 7 k ≤ 9 ∧ A 8 k ≤ 15 ∧ A 9 k ≤ 15
/-- a layout as the class has it -/
def LI (L : Mm) (A : Lay) : Prop := L 3 0 = nI (A 0 0) ∧ L 3 1 = nI (A 1 0) ∧ (∀ p, p < A 0 0 → L 0 p = nI (A 2 p) ∧ L 1 p = nI (A 3 p)) ∧ ∀ k, k < A 1 0 → ∀ j, j < 6 → L 2 (k * 6 + j) = nI (A (4 + j) k)
/-- a layout as the reference has it -/
def MI (s : Nat → Int32) (A : Lay) : Prop := s 0 = nI (A 0 0) ∧ s 1 = nI (A 1 0) ∧ (∀ p, p < A 0 0 → s (2 + 2 * p) = nI (A 2 p) ∧ s (2 + 2 * p + 1) = nI (A 3 p)) ∧ ∀ k, k < A 1 0 → ∀ j, j < 6 → s (14 + 6 * k + j) = nI (A (4 + j) k)
/-- the history, by positions: the class's side, the reference's side -/
def HC (kept : Nat) (Ah : Nat → Lay) (K : Mm) (P : Nat → Nat) (Hs : Nat → Mm) : Prop := kept ≤ 4 ∧ K 0 0 = nI kept ∧ (∀ i, i < 4 → P i < 4) ∧ (∀ i j, i < 4 → j < 4 → P i = P j → i = j) ∧ ∀ i, i < kept → LI (Hs (P i)) (Ah i)
def HM (kept : Nat) (Ah : Nat → Lay) (M : Mm) : Prop := M 12 0 = nI kept ∧ ∀ i, i < kept → LB (Ah i) ∧ MI (fun j => M 1 (74 * i + j)) (Ah i)
def nk (kept : Nat) : Nat := if kept = 4 then 4 else kept + 1
def nA (kept : Nat) (Ah : Nat → Lay) (A : Lay) : Nat → Lay := fun i => if kept = 4 then (if i = 3 then A else Ah (i + 1)) else (if i = kept then A else Ah i)
/-- the text -/
def TI (len : Nat) (T M : Mm) : Prop := len ≤ 60 ∧ T 2 0 = nI len ∧ M 12 1 = nI len ∧ ∀ i, i < len → T 0 i = M 4 i ∧ ∃ c : Nat, 32 ≤ c ∧ c ≤ 126 ∧ M 4 i = nI c
/-- nothing is told otherwise -/
def FI (M : Mm) : Prop := M 12 7 = -1 ∧ M 12 8 = -1 ∧ M 12 9 = -1 ∧ M 12 10 = -1
def INV (L K : Mm) (P : Nat → Nat) (Hs : Nat → Mm) (S N T R M : Mm) : Prop := ∃ (A : Lay) (kept : Nat) (Ah : Nat → Lay) (len : Nat), LB A ∧ LI L A ∧ MI (M 0) A ∧ HC kept Ah K P Hs ∧ HM kept Ah M ∧ TI len T M ∧ FI M
theorem pz_up_s {α : Type} (M : Nat → α) (k : Nat) (f : α) : va_up M k f k = f := va_up_self M k f
theorem pz_cl {n : Nat} (h : n < 2 ^ 31) : (nI n).toNatClampNeg = n := nI_clamp h
/-- the reference's copy of a layout for a change to come -/
theorem pr_keeps_2 : ∀ (r n k : Nat) (M : Mm), k + r = 74 → r < n → (∀ j, j < k → M 2 j = M 0 j) → ∃ f : Nat → Int32, F_X5_keeps_2 n M (nI k) = some (va_up M 2 f) ∧ (∀ j, j < 74 → f j = M 0 j)
  | r, 0, k, M, _, h, _ => by omega
  | 0, n + 1, k, M, hk, h, hM => by
    have hk : k = 74 := by omega
    subst hk
    refine ⟨M 2, ?_, hM⟩
    have e : va_up M 2 (M 2) = M := by funext q; unfold va_up; by_cases h : q = 2; rw [if_pos h, h]; rw [if_neg h]
    rw [e]
    show F_X5_keepsB_2 (F_X5_keeps_2 n) M (nI 74) = some M
    unfold F_X5_keepsB_2
    rw [if_pos (by decide)]
  | r + 1, n + 1, k, M, hk, h, hM => by
    have e1 : ¬ (74 : Int32) ≤ nI k := nI_ge (a := k) (b := 74) (by omega) (by omega)
    show ∃ f, F_X5_keepsB_2 (F_X5_keeps_2 n) M (nI k) = some (va_up M 2 f) ∧ _
    unfold F_X5_keepsB_2
    rw [if_neg e1, ck_nI (by omega) (by omega), ck_nI (by omega) (by omega), sv_eq, nI_clamp (by omega), ← nI_succ]
    obtain ⟨f, h1, h2⟩ := pr_keeps_2 r n (k + 1) (va_up M 2 (upd (M 2) k (M 0 k))) (by omega) (by omega) (fun j hj => by
      rw [va_up_self, va_up_ne _ _ (by decide)]
      by_cases h : j = k
      · rw [h]; exact pk_us
      · rw [pk_un h]; exact hM j (by omega))
    refine ⟨f, ?_, fun j hj => ?_⟩
    · rw [h1]
      congr 1
      funext q
      unfold va_up
      by_cases h : q = 2
      · rw [if_pos h, if_pos h]
      · rw [if_neg h, if_neg h, if_neg h]
    · rw [h2 j hj, va_up_ne _ _ (by decide)]
theorem pr_keeps (M : Mm) : ∃ f : Nat → Int32, F_X5_keeps M = some (va_up M 2 f) ∧ ∀ j, j < 74 → f j = M 0 j := pr_keeps_2 74 FU 0 M rfl (by decide) (fun j hj => by omega)
/-- in a range -/
theorem pr_in (v low high : Int32) : F_X5_in v low high = some (if low ≤ v ∧ v ≤ high then 1 else 0) := by
  unfold F_X5_in
  by_cases h1 : v < low
  · rw [if_pos h1, if_neg]
    intro h; exact absurd h1 (Int32.not_lt.mpr h.1)
  · rw [if_neg h1]
    by_cases h2 : high < v
    · rw [if_pos h2, if_neg]
      intro h; exact absurd h2 (Int32.not_lt.mpr h.2)
    · rw [if_neg h2, if_pos ⟨Int32.not_lt.mp h1, Int32.not_lt.mp h2⟩]
theorem pc_within (v low high : Int32) : F_X4_within v low high = some (if low ≤ v ∧ v ≤ high then 1 else 0) := pr_in v low high
