/-! PURE PART: sets of pipes as bits; narrow. -/
theorem or_bit : ∀ k, k < 10 → ∀ a, a < 2 ^ k → nI a ||| ((1 : Int32) <<< (nI k &&& 31)) = nI (a + 2 ^ k) := by decide +kernel
theorem or_bit2 : ∀ k, k < 10 → ∀ a, a < 2 ^ k → nI (a + 2 ^ k) ||| ((1 : Int32) <<< (nI k &&& 31)) = nI (a + 2 ^ k) := by decide +kernel
theorem or_0 (x : Int32) : x ||| (0 : Int32) = x := by simp
theorem sm31 : ∀ j, j < 10 → ((nI j &&& 31).toBitVec.smod 32).toNat = j := by decide +kernel
theorem has_n {a j : Nat} (ha : a < 1024) (hj : j < 10) : F_X4_has (nI a) (nI j) = some (if a / 2 ^ j % 2 = 1 then 1 else 0) := by
  unfold F_X4_has
  rw [pk_shrN (by omega) _ j (sm31 j hj), pk_andN (m := (1 : Int32)) (by have : a / 2 ^ j ≤ a := Nat.div_le_self _ _; omega) 1 rfl]
  by_cases c : a / 2 ^ j % 2 = 1
  · rw [if_pos c, show a / 2 ^ j % 2 ^ 1 = 1 from c, if_pos (show nI 1 = (1 : Int32) from rfl)]
  · rw [if_neg c, show a / 2 ^ j % 2 ^ 1 = 0 by omega, if_neg (show ¬ nI 0 = (1 : Int32) by decide)]
noncomputable def pb (P : Nat → Prop) (k : Nat) : Nat := haveI := Classical.propDecidable (P k); if P k then 2 ^ k else 0
theorem pb_1 {P : Nat → Prop} {k : Nat} (h : P k) : pb P k = 2 ^ k := by unfold pb; rw [if_pos h]
theorem pb_0 {P : Nat → Prop} {k : Nat} (h : ¬ P k) : pb P k = 0 := by unfold pb; rw [if_neg h]
noncomputable def sb (P : Nat → Prop) : Nat → Nat
  | 0 => 0
  | k + 1 => sb P k + pb P k
theorem sb_lt (P : Nat → Prop) : ∀ k, sb P k < 2 ^ k
  | 0 => Nat.one_pos
  | k + 1 => by
    have h1 := sb_lt P k
    have h2 : (2 : Nat) ^ (k + 1) = 2 ^ k * 2 := rfl
    show sb P k + pb P k < _
    by_cases c : P k
    · rw [pb_1 c]; omega
    · rw [pb_0 c]; omega
theorem sb_congr {P Q : Nat → Prop} : ∀ k, (∀ j, j < k → (P j ↔ Q j)) → sb P k = sb Q k
  | 0, _ => rfl
  | k + 1, h => by
    show sb P k + pb P k = sb Q k + pb Q k
    rw [sb_congr k (fun j hj => h j (by omega))]
    by_cases c : P k
    · rw [pb_1 c, pb_1 ((h k (by omega)).mp c)]
    · rw [pb_0 c, pb_0 (fun z => c ((h k (by omega)).mpr z))]
theorem sb_bit (P : Nat → Prop) : ∀ k j, j < k → (sb P k / 2 ^ j % 2 = 1 ↔ P j)
  | 0, j, h => by omega
  | k + 1, j, h => by
    have hl := sb_lt P k
    have hp : 0 < (2 : Nat) ^ j := Nat.two_pow_pos j
    show (sb P k + pb P k) / 2 ^ j % 2 = 1 ↔ P j
    by_cases e : j = k
    · subst e
      by_cases c : P j
      · rw [pb_1 c, Nat.add_div_right _ hp, Nat.div_eq_of_lt hl]
        exact ⟨fun _ => c, fun _ => rfl⟩
      · rw [pb_0 c, Nat.add_zero, Nat.div_eq_of_lt hl]
        exact ⟨fun z => by omega, fun z => absurd z c⟩
    · have ih := sb_bit P k j (by omega)
      by_cases c : P k
      · have e2 : (2 : Nat) ^ k = 2 ^ j * (2 * 2 ^ (k - j - 1)) := by
          rw [← Nat.pow_succ', ← Nat.pow_add]
          congr 1
          omega
        rw [pb_1 c, e2, Nat.add_mul_div_left _ _ hp, ← ih]
        omega
      · rw [pb_0 c, Nat.add_zero]; exact ih
theorem sb_has (P : Nat → Prop) {m j : Nat} (hm : m ≤ 10) (hj : j < m) : (F_X4_has (nI (sb P m)) (nI j) = some 1 ∧ P j) ∨ (F_X4_has (nI (sb P m)) (nI j) = some 0 ∧ ¬ P j) := by
  have h1 := sb_lt P m
  have h2 : (2 : Nat) ^ m ≤ 2 ^ 10 := Nat.pow_le_pow_right (by omega) hm
  have h3 := sb_bit P m j hj
  rw [has_n (by omega) (by omega)]
  by_cases c : P j
  · rw [if_pos (h3.mpr c)]; exact Or.inl ⟨rfl, c⟩
  · rw [if_neg (fun z => c (h3.mp z))]; exact Or.inr ⟨rfl, c⟩
/-- a pipe is narrow at a tick -/
def NQ (A : Lay) (B : Nat → Nat) (en q : Nat) (T : Lay) (k t : Nat) : Prop := t + A 6 k ≤ en ∧ 0 < B (16 * k + t) ∧ RE q T (16 * A 4 k + t) ∧ ¬ RE q T (16 * A 5 k + (t + A 6 k))
def NP (A : Lay) (B : Nat → Nat) (en q : Nat) (T : Lay) (k : Nat) : Prop := ∃ t, NQ A B en q T k t
section NAR
variable {A : Lay} {B : Nat → Nat} {en : Nat}
theorem pc_isNarrow_35 {S N : Mm} {q : Nat} {T : Lay} (hN : NC N A B) (hB : NB A B) (hen : en ≤ 15) (hL : SL A S q T) {k : Nat} (hk : k < A 1 0) : ∀ (r n t : Nat), t + r = 17 → r < n → (F_X3_isNarrow_35 n S N (nI k) (nI en) (nI (A 4 k)) (nI (A 5 k)) (nI (A 6 k)) (nI t) = some 1 ∧ ∃ t', t ≤ t' ∧ NQ A B en q T k t') ∨ (F_X3_isNarrow_35 n S N (nI k) (nI en) (nI (A 4 k)) (nI (A 5 k)) (nI (A 6 k)) (nI t) = some 0 ∧ ¬ ∃ t', t ≤ t' ∧ NQ A B en q T k t')
  | r, 0, t, _, h => by omega
  | 0, n + 1, t, ht, h => by
    right
    refine ⟨?_, fun ⟨t', h1, h2, _⟩ => by omega⟩
    have hg := hB.2.2.2.1 k hk
    show F_X3_isNarrowB_35 (F_X3_isNarrow_35 n) S N (nI k) (nI en) (nI (A 4 k)) (nI (A 5 k)) (nI (A 6 k)) (nI t) = _
    unfold F_X3_isNarrowB_35
    rw [nI_add, if_pos (nI_lt (by omega) (by omega))]
  | r + 1, n + 1, t, ht, h => by
    have hm2 := hB.2.1
    have hm3 := hB.2.2.1
    have hg := hB.2.2.2.1 k hk
    have ih := pc_isNarrow_35 hN hB hen hL hk r n (t + 1) (by omega) (by omega)
    show (F_X3_isNarrowB_35 (F_X3_isNarrow_35 n) S N (nI k) (nI en) (nI (A 4 k)) (nI (A 5 k)) (nI (A 6 k)) (nI t) = some 1 ∧ _) ∨ (F_X3_isNarrowB_35 (F_X3_isNarrow_35 n) S N (nI k) (nI en) (nI (A 4 k)) (nI (A 5 k)) (nI (A 6 k)) (nI t) = some 0 ∧ _)
    unfold F_X3_isNarrowB_35
    rw [nI_add]
    by_cases c : en < t + A 6 k
    · rw [if_pos (nI_lt c (by omega))]
      exact Or.inr ⟨rfl, fun ⟨t', h1, h2, _⟩ => by omega⟩
    · have hb10 := hB.2.2.2.2.2.1 (16 * k + t) (by omega)
      rw [if_neg (nI_nlt (by omega) (by omega)), hN.2.2.2.1 k t hk (by omega), b1_some]
      have go : ¬ NQ A B en q T k t → (F_X3_isNarrow_35 n S N (nI k) (nI en) (nI (A 4 k)) (nI (A 5 k)) (nI (A 6 k)) (nI t + 1) = some 1 ∧ ∃ t', t ≤ t' ∧ NQ A B en q T k t') ∨ (F_X3_isNarrow_35 n S N (nI k) (nI en) (nI (A 4 k)) (nI (A 5 k)) (nI (A 6 k)) (nI t + 1) = some 0 ∧ ¬ ∃ t', t ≤ t' ∧ NQ A B en q T k t') := by
        intro hq
        rw [← nI_succ]
        rcases ih with ⟨i1, t', i2, i3⟩ | ⟨i1, i2⟩
        · exact Or.inl ⟨i1, t', by omega, i3⟩
        · refine Or.inr ⟨i1, fun ⟨t', h1, h2⟩ => ?_⟩
          by_cases e : t' = t
          · rw [e] at h2; exact hq h2
          · exact i2 ⟨t', by omega, h2⟩
      unfold F_X3_isNarrow_62
      by_cases c2 : B (16 * k + t) = 0
      · rw [if_pos (by rw [c2]; decide), if_pos rfl]
        exact go (fun z => by have := z.2.1; omega)
      · rw [if_neg (nI_nle (by omega) (by omega)), if_neg (by decide)]
        rcases pc_isWanting (N := N) hL (p := A 4 k) (t := t) (by omega) (by omega) with ⟨w1, w2⟩ | ⟨w1, w2⟩
        · rw [w1, b1_some, if_neg (by decide), nI_add]
          rcases pc_isWanting (N := N) hL (p := A 5 k) (t := t + A 6 k) (by omega) (by omega) with ⟨v1, v2⟩ | ⟨v1, v2⟩
          · rw [v1, b1_some, if_neg (by decide)]
            exact go (fun z => z.2.2.2 v2)
          · rw [v1, b1_some, if_pos rfl]
            exact Or.inl ⟨rfl, t, Nat.le_refl _, by omega, by omega, w2, v2⟩
        · rw [w1, b1_some, if_pos rfl]
          exact go (fun z => w2 z.2.2.1)
theorem pc_narrowPipes_4 {S N : Mm} {q : Nat} {T : Lay} (hN : NC N A B) (hB : NB A B) (hen : en ≤ 15) (hL : SL A S q T) : ∀ (r n k : Nat), k + r = A 1 0 → r < n → F_X3_narrowPipes_4 n S N (nI en) (nI (sb (NP A B en q T) k)) (nI k) = some (nI (sb (NP A B en q T) (A 1 0)))
  | r, 0, k, _, h => by omega
  | 0, n + 1, k, hk, h => by
    have hm := hB.2.2.1
    have e : k = A 1 0 := by omega
    show F_X3_narrowPipesB_4 (F_X3_narrowPipes_4 n) S N (nI en) _ (nI k) = _
    unfold F_X3_narrowPipesB_4
    rw [hN.2.1, e, if_pos (nI_le (Nat.le_refl _) (by omega))]
  | r + 1, n + 1, k, hk, h => by
    have hm := hB.2.2.1
    have hkm : k < A 1 0 := by omega
    have ih := pc_narrowPipes_4 hN hB hen hL r n (k + 1) (by omega) (by omega)
    have hs := sb_lt (NP A B en q T) k
    have es : sb (NP A B en q T) (k + 1) = sb (NP A B en q T) k + pb (NP A B en q T) k := rfl
    show F_X3_narrowPipesB_4 (F_X3_narrowPipes_4 n) S N (nI en) _ (nI k) = _
    unfold F_X3_narrowPipesB_4 F_X3_isNarrow
    rw [hN.2.1, if_neg (nI_ge hkm (by omega)), show (0 : Int32) = nI 0 from rfl, show (1 : Int32) = nI 1 from rfl, show (2 : Int32) = nI 2 from rfl, pc_part3 hN hB hkm (by omega), b1_some, pc_part3 hN hB hkm (by omega), b1_some, pc_part3 hN hB hkm (by omega), b1_some]
    rcases pc_isNarrow_35 hN hB hen hL hkm 17 FU 0 (by omega) (by rw [FU_eq]; omega) with ⟨i1, t', -, i2⟩ | ⟨i1, i2⟩
    · show b1 (F_X3_isNarrow_35 FU S N (nI k) (nI en) (nI (A 4 k)) (nI (A 5 k)) (nI (A 6 k)) (nI 0)) _ = _
      rw [i1, b1_some, if_neg (show ¬ (1 : Int32) = nI 0 by decide)]
      show F_X3_narrowPipes_4 n S N (nI en) (nI (sb (NP A B en q T) k) ||| ((1 : Int32) <<< (nI k &&& 31))) (nI k + 1) = _
      rw [or_bit k (by omega) _ hs, ← nI_succ]
      rw [es, pb_1 ⟨t', i2⟩] at ih
      exact ih
    · show b1 (F_X3_isNarrow_35 FU S N (nI k) (nI en) (nI (A 4 k)) (nI (A 5 k)) (nI (A 6 k)) (nI 0)) _ = _
      rw [i1, b1_some, if_pos (show (0 : Int32) = nI 0 from rfl)]
      show F_X3_narrowPipes_4 n S N (nI en) (nI (sb (NP A B en q T) k)) (nI k + 1) = _
      rw [← nI_succ]
      rw [es, pb_0 (fun ⟨t', z⟩ => i2 ⟨t', Nat.zero_le _, z⟩), Nat.add_zero] at ih
      exact ih
theorem pc_narrowPipes {S N : Mm} {q : Nat} {T : Lay} (hN : NC N A B) (hB : NB A B) (hen : en ≤ 15) (hL : SL A S q T) : F_X3_narrowPipes S N (nI en) = some (nI (sb (NP A B en q T) (A 1 0))) :=
  pc_narrowPipes_4 hN hB hen hL (A 1 0) FU 0 (by omega) (by have := hB.2.2.1; rw [FU_eq]; omega)
theorem pm_isNarrow_4 {f : Nat → Nat} {M : Mm} {q : Nat} {T : Lay} (hC : MC M A B en) (hB : NB A B) (hen : en ≤ 15) (hF : FIN A B en f q T) (hL : ML M q T) {k : Nat} (hk : k < A 1 0) : ∀ (r n t : Nat) (is : Nat), is ≤ 1 → t + r = en + 1 → r < n → (F_X5_isNarrow_4 n M (nI k) (nI is) (nI t) = some 1 ∧ (is = 1 ∨ ∃ t', t ≤ t' ∧ NQ A B en q T k t')) ∨ (F_X5_isNarrow_4 n M (nI k) (nI is) (nI t) = some 0 ∧ is = 0 ∧ ¬ ∃ t', t ≤ t' ∧ NQ A B en q T k t')
  | r, 0, t, is, _, _, h => by omega
  | 0, n + 1, t, is, hi, ht, h => by
    have no : ¬ ∃ t', t ≤ t' ∧ NQ A B en q T k t' := fun ⟨t', h1, h2, _⟩ => by omega
    show (F_X5_isNarrowB_4 (F_X5_isNarrow_4 n) M (nI k) (nI is) (nI t) = some 1 ∧ _) ∨ (F_X5_isNarrowB_4 (F_X5_isNarrow_4 n) M (nI k) (nI is) (nI t) = some 0 ∧ _)
    unfold F_X5_isNarrowB_4
    rw [hC.2.2.2.2.2.2.2.1, if_pos (nI_lt (by omega) (by omega))]
    rcases (show is = 0 ∨ is = 1 by omega) with rfl | rfl
    · exact Or.inr ⟨cz_0 _, rfl, no⟩
    · exact Or.inl ⟨cz_1 _, Or.inl rfl⟩
  | r + 1, n + 1, t, is, hi, ht, h => by
    have hm2 := hB.2.1
    have hm3 := hB.2.2.1
    have hg := hB.2.2.2.1 k hk
    have ih := fun i (hi : i ≤ 1) => pm_isNarrow_4 hC hB hen hF hL hk r n (t + 1) i hi (by omega) (by omega)
    show (F_X5_isNarrowB_4 (F_X5_isNarrow_4 n) M (nI k) (nI is) (nI t) = some 1 ∧ _) ∨ (F_X5_isNarrowB_4 (F_X5_isNarrow_4 n) M (nI k) (nI is) (nI t) = some 0 ∧ _)
    unfold F_X5_isNarrowB_4
    have go : ∀ is', is' ≤ 1 → (is' = 1 ↔ is = 1 ∨ NQ A B en q T k t) → (F_X5_isNarrow_4 n M (nI k) (nI is') (nI (t + 1)) = some 1 ∧ (is = 1 ∨ ∃ t', t ≤ t' ∧ NQ A B en q T k t')) ∨ (F_X5_isNarrow_4 n M (nI k) (nI is') (nI (t + 1)) = some 0 ∧ is = 0 ∧ ¬ ∃ t', t ≤ t' ∧ NQ A B en q T k t') := by
      intro is' hi' he
      rcases ih is' hi' with ⟨i1, i2⟩ | ⟨i1, i2, i3⟩
      · refine Or.inl ⟨i1, ?_⟩
        rcases i2 with i2 | ⟨t', i2, i4⟩
        · rcases he.mp i2 with z | z
          · exact Or.inl z
          · exact Or.inr ⟨t, Nat.le_refl _, z⟩
        · exact Or.inr ⟨t', by omega, i4⟩
      · have hn : ¬ (is = 1 ∨ NQ A B en q T k t) := fun z => by have := he.mpr z; omega
        refine Or.inr ⟨i1, by omega, fun ⟨t', h1, h2⟩ => ?_⟩
        by_cases e : t' = t
        · rw [e] at h2; exact hn (Or.inr h2)
        · exact i3 ⟨t', by omega, h2⟩
    have stay : ¬ NQ A B en q T k t → (F_X5_isNarrow_53 (F_X5_isNarrow_4 n) M (nI k) (nI is) (nI t) = some 1 ∧ (is = 1 ∨ ∃ t', t ≤ t' ∧ NQ A B en q T k t')) ∨ (F_X5_isNarrow_53 (F_X5_isNarrow_4 n) M (nI k) (nI is) (nI t) = some 0 ∧ is = 0 ∧ ¬ ∃ t', t ≤ t' ∧ NQ A B en q T k t') := by
      intro hq
      unfold F_X5_isNarrow_53 F_X5_isNarrow_54
      rcases (show is = 0 ∨ is = 1 by omega) with rfl | rfl
      · rw [if_pos (show nI 0 = (0 : Int32) from rfl), if_pos rfl, ← nI_succ]
        exact go 0 (by omega) ⟨fun z => by omega, fun z => by rcases z with z | z; omega; exact absurd z hq⟩
      · rw [if_neg (show ¬ nI 1 = (0 : Int32) by decide), ← nI_succ]
        exact go 1 (by omega) ⟨fun _ => Or.inl rfl, fun _ => rfl⟩
    rw [hC.2.2.2.2.2.2.2.1, if_neg (nI_nlt (by omega) (by omega)), show (0 : Int32) = nI 0 from rfl, pm_pi3 hC hB hk (by omega), b1_some, b1_some]
    show ((if nI (A 4 k) = nI 0 then F_X5_isNarrow_53 (F_X5_isNarrow_4 n) M (nI k) (nI is) (nI t) else (b1 (F_X5_isOpen M (nI k) (nI t)) fun u6 => (if u6 = nI 0 then F_X5_isNarrow_53 (F_X5_isNarrow_4 n) M (nI k) (nI is) (nI t) else (ck (((16 : Int32) * nI (A 4 k)) + nI t) 96 <| (if (M 9 (((16 : Int32) * nI (A 4 k)) + nI t).toNatClampNeg) < (0 : Int32) then F_X5_isNarrow_53 (F_X5_isNarrow_4 n) M (nI k) (nI is) (nI t) else F_X5_isNarrow_54 (F_X5_isNarrow_4 n) M (nI k) (nI is) (nI t) (1 : Int32)))))) = some 1 ∧ _) ∨ ((if nI (A 4 k) = nI 0 then F_X5_isNarrow_53 (F_X5_isNarrow_4 n) M (nI k) (nI is) (nI t) else (b1 (F_X5_isOpen M (nI k) (nI t)) fun u6 => (if u6 = nI 0 then F_X5_isNarrow_53 (F_X5_isNarrow_4 n) M (nI k) (nI is) (nI t) else (ck (((16 : Int32) * nI (A 4 k)) + nI t) 96 <| (if (M 9 (((16 : Int32) * nI (A 4 k)) + nI t).toNatClampNeg) < (0 : Int32) then F_X5_isNarrow_53 (F_X5_isNarrow_4 n) M (nI k) (nI is) (nI t) else F_X5_isNarrow_54 (F_X5_isNarrow_4 n) M (nI k) (nI is) (nI t) (1 : Int32)))))) = some (nI 0) ∧ _)
    by_cases c0 : A 4 k = 0
    · rw [if_pos (by rw [c0])]
      refine stay (fun z => ?_)
      rcases z.2.2.1 with y | ⟨i, y1, y2⟩
      · omega
      · have := hF.2.1 i y1; omega
    · rw [if_neg (fun z => c0 ((nI_eq (by omega) (by omega)).mp z)), hC.2.2.2.2.2.1 k t hk (by omega), b1_some]
      by_cases c1 : 0 < B (16 * k + t) ∧ t + A 6 k ≤ en
      · rw [if_pos c1, if_neg (show ¬ (1 : Int32) = nI 0 by decide), show (16 : Int32) = nI 16 from rfl, pk_mul, nI_add, ck_nI (by omega) (by omega), nI_clamp (by omega)]
        rcases pm_back hF.1 hL (u := 16 * A 4 k + t) (by omega) with ⟨m1, m2, m3⟩ | ⟨m1, m2, m3⟩
        · rw [if_neg m1]
          unfold F_X5_isNarrow_54
          rcases (show is = 0 ∨ is = 1 by omega) with rfl | rfl
          · rw [if_pos (show nI 0 = (0 : Int32) from rfl), if_neg (show ¬ (1 : Int32) = 0 by decide), show (1 : Int32) = nI 1 from rfl, show (2 : Int32) = nI 2 from rfl, pm_pi3 hC hB hk (by omega), b1_some, pm_pi3 hC hB hk (by omega), b1_some]
            show (ck ((((16 : Int32) * nI (A 5 k)) + nI t) + nI (A 6 k)) 96 (if (0 : Int32) ≤ (M 9 ((((16 : Int32) * nI (A 5 k)) + nI t) + nI (A 6 k)).toNatClampNeg) then F_X5_isNarrow_4 n M (nI k) (nI 0) (nI t + nI 1) else F_X5_isNarrow_4 n M (nI k) (nI 1) (nI t + nI 1)) = some (nI 1) ∧ _) ∨ (ck ((((16 : Int32) * nI (A 5 k)) + nI t) + nI (A 6 k)) 96 (if (0 : Int32) ≤ (M 9 ((((16 : Int32) * nI (A 5 k)) + nI t) + nI (A 6 k)).toNatClampNeg) then F_X5_isNarrow_4 n M (nI k) (nI 0) (nI t + nI 1) else F_X5_isNarrow_4 n M (nI k) (nI 1) (nI t + nI 1)) = some (nI 0) ∧ _)
            rw [show (16 : Int32) = nI 16 from rfl, pk_mul, nI_add, nI_add, nI_add, ck_nI (by omega) (by omega), nI_clamp (by omega)]
            rcases pm_back hF.1 hL (u := 16 * A 5 k + t + A 6 k) (by omega) with ⟨l1, l2, l3⟩ | ⟨l1, l2, l3⟩
            · rw [if_pos l2]
              exact go 0 (by omega) ⟨fun z => by omega, fun z => by
                rcases z with z | z
                · omega
                · exfalso; exact z.2.2.2 (by rw [← Nat.add_assoc]; exact l3)⟩
            · rw [if_neg l2]
              exact go 1 (by omega) ⟨fun _ => Or.inr ⟨c1.2, c1.1, m3, by rw [← Nat.add_assoc]; exact l3⟩, fun _ => rfl⟩
          · rw [if_neg (show ¬ nI 1 = (0 : Int32) by decide), ← nI_succ]
            exact go 1 (by omega) ⟨fun _ => Or.inl rfl, fun _ => rfl⟩
        · rw [if_pos m1]
          exact stay (fun z => m3 z.2.2.1)
      · rw [if_neg c1, if_pos (show (0 : Int32) = nI 0 from rfl)]
        exact stay (fun z => c1 ⟨z.2.1, z.1⟩)
theorem pm_narrow_23 {f : Nat → Nat} {M : Mm} {q : Nat} {T : Lay} (hC : MC M A B en) (hB : NB A B) (hen : en ≤ 15) (hF : FIN A B en f q T) (hL : ML M q T) : ∀ (r n k : Nat), k + r = A 1 0 → r < n → F_X5_narrow_23 n M (nI (sb (NP A B en q T) k)) (nI k) = some (nI (sb (NP A B en q T) (A 1 0)), M)
  | r, 0, k, _, h => by omega
  | 0, n + 1, k, hk, h => by
    have hm := hB.2.2.1
    have e : k = A 1 0 := by omega
    show F_X5_narrowB_23 (F_X5_narrow_23 n) M _ (nI k) = _
    unfold F_X5_narrowB_23
    rw [show (1 : Int32) = nI 1 from rfl, ck_nI (by omega) (by omega), nI_clamp (by omega), hC.2.1, e, if_pos (nI_le (Nat.le_refl _) (by omega))]
  | r + 1, n + 1, k, hk, h => by
    have hm := hB.2.2.1
    have hkm : k < A 1 0 := by omega
    have ih := pm_narrow_23 hC hB hen hF hL r n (k + 1) (by omega) (by omega)
    have hs := sb_lt (NP A B en q T) k
    have es : sb (NP A B en q T) (k + 1) = sb (NP A B en q T) k + pb (NP A B en q T) k := rfl
    show ck (nI 1) 74 (if (M 0 (nI 1).toNatClampNeg) ≤ nI k then some (nI (sb (NP A B en q T) k), M) else (b1 (F_X5_isNarrow M (nI k)) fun u3 => (if u3 = 0 then F_X5_narrow_23 n M (nI (sb (NP A B en q T) k) ||| (0 : Int32)) (nI k + 1) else F_X5_narrow_23 n M (nI (sb (NP A B en q T) k) ||| ((1 : Int32) <<< (nI k &&& 31))) (nI k + 1)))) = _
    unfold F_X5_isNarrow
    rw [ck_nI (by omega) (by omega), nI_clamp (by omega), hC.2.1, if_neg (nI_ge hkm (by omega))]
    rcases pm_isNarrow_4 hC hB hen hF hL hkm (en + 1) FU 0 0 (by omega) (by omega) (by rw [FU_eq]; omega) with ⟨i1, i2⟩ | ⟨i1, -, i2⟩
    · show b1 (F_X5_isNarrow_4 FU M (nI k) (nI 0) (nI 0)) _ = _
      rw [i1, b1_some, if_neg (by decide), or_bit k (by omega) _ hs, ← nI_succ]
      have hp : NP A B en q T k := by
        rcases i2 with z | ⟨t', -, z⟩
        · omega
        · exact ⟨t', z⟩
      rw [es, pb_1 hp] at ih
      exact ih
    · show b1 (F_X5_isNarrow_4 FU M (nI k) (nI 0) (nI 0)) _ = _
      rw [i1, b1_some, if_pos rfl, or_0, ← nI_succ]
      rw [es, pb_0 (fun ⟨t', z⟩ => i2 ⟨t', Nat.zero_le _, z⟩), Nat.add_zero] at ih
      exact ih
theorem NP_iff {f1 f2 : Nat → Nat} {q1 q2 : Nat} {T1 T2 : Lay} (hN : NB A B) (e1 : Fe A B en f1) (e2 : Fe A B en f2) (h1 : FIN A B en f1 q1 T1) (h2 : FIN A B en f2 q2 T2) (k : Nat) : NP A B en q1 T1 k ↔ NP A B en q2 T2 k := by
  unfold NP NQ
  refine ⟨fun ⟨t, a1, a2, a3, a4⟩ => ⟨t, a1, a2, ?_, ?_⟩, fun ⟨t, a1, a2, a3, a4⟩ => ⟨t, a1, a2, ?_, ?_⟩⟩
  · exact (fin_re hN e1 e2 h1 h2 _).mp a3
  · exact fun z => a4 ((fin_re hN e1 e2 h1 h2 _).mpr z)
  · exact (fin_re hN e1 e2 h1 h2 _).mpr a3
  · exact fun z => a4 ((fin_re hN e1 e2 h1 h2 _).mp z)
end NAR
/-- the reference's net after a plain run -/
theorem MC_after {M M' : Mm} {A : Lay} {en : Nat} (hB : LB A) (hM : MI (M 0) A) (hF : FI M) (hen : en ≤ 15) (hc : CS M M') (h5 : M' 12 5 = nI en) : MC M' A (BA A) en := by
  have hF' := FI_CS hF hc
  exact MC_plain hB (by rw [hc.1 0 (by decide)]; exact hM) hF'.1 hF'.2.1 hF'.2.2.1 hF'.2.2.2 h5 hen
theorem st_narrow {L K : Mm} {P : Nat → Nat} {Hs : Nat → Mm} {S N T R M : Mm} (h : INV L K P Hs S N T R M) (x1 : Int32) : ∃ (r : Int32) (S' : Mm) (N' : Mm) (M' : Mm), F_X4_narrow L K P Hs S N T R x1 = some (r, S', N') ∧ F_X5_narrow M x1 = some (r, M') ∧ INV L K P Hs S' N' T R M' := by
  have hI := h
  obtain ⟨A, kept, Ah, len, hB, hL, hM, hC, hH, hT, hF⟩ := h
  have hB3 := hB.2.2.1
  unfold F_X4_narrow F_X5_narrow
  rw [pc_isTick, b1_some, pr_in, b1_some]
  by_cases c1 : (0 : Int32) ≤ x1 ∧ x1 ≤ 15
  · rw [if_pos c1, if_neg (show ¬ (1 : Int32) = 0 by decide), if_neg (show ¬ (1 : Int32) = 0 by decide)]
    obtain ⟨en, hen, rfl⟩ := tick_of c1
    obtain ⟨V, S', N', f, q, T1, a1, a2, a3, a4, a5, a6, a7, a8⟩ := pc_most hB hL hen S N
    obtain ⟨V2, M', f2, q2, T2, b1', b2', b3', b4', b5', b6', b7', b8'⟩ := pm_plain hB hM hF hen
    have d1 := pc_narrowPipes (NC_BA a8 hB.wb) (NB_BA hB.wb) hen a7
    have d2 := pm_narrow_23 (MC_after hB hM hF hen b7' b8') (NB_BA hB.wb) hen b5' b6' (A 1 0) FU 0 (by omega) (by rw [FU_eq]; omega)
    have e := sb_congr (A 1 0) (fun j _ => NP_iff (NB_BA hB.wb) a3 b3' a6 b5' j)
    rw [a1, b3_some, d1, b1_some, b1', b2_some, e]
    exact ⟨_, _, _, _, rfl, d2, INV_CS hI b7'⟩
  · rw [if_neg c1, if_pos rfl, if_pos rfl]
    exact ⟨_, _, _, _, rfl, rfl, hI⟩
