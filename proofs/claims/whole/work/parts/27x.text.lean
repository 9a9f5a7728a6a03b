/-! PURE PART: the text's settings, read on both sides. -/
/-- the class's text, the reference's: len characters c -/
def CT (T : Mm) (len : Nat) (c : Nat → Nat) : Prop := T 2 0 = nI len ∧ len ≤ 60 ∧ ∀ i, i < len → T 0 i = nI (c i) ∧ 32 ≤ c i ∧ c i ≤ 126
def RT (M : Mm) (len : Nat) (c : Nat → Nat) : Prop := M 12 1 = nI len ∧ len ≤ 60 ∧ ∀ i, i < len → M 4 i = nI (c i) ∧ 32 ≤ c i ∧ c i ≤ 126
/-- a digit stands there -/
def dg (len : Nat) (c : Nat → Nat) (i : Nat) : Prop := i < len ∧ 48 ≤ c i ∧ c i ≤ 57
/-- what the class's reading may change; the reference's -/
def TX (T T' : Mm) : Prop := T' 0 = T 0 ∧ ∀ q, q ≠ 1 → T' 2 q = T 2 q
def MX (M M' : Mm) : Prop := (∀ q, q ≠ 5 → q ≠ 12 → M' q = M q) ∧ ∀ q, q ≠ 2 → M' 12 q = M 12 q
theorem TX.refl (T : Mm) : TX T T := ⟨rfl, fun _ _ => rfl⟩
theorem TX.trans {T T1 T2 : Mm} (h : TX T T1) (h' : TX T1 T2) : TX T T2 := ⟨by rw [h'.1, h.1], fun q a => by rw [h'.2 q a, h.2 q a]⟩
theorem MX.refl (M : Mm) : MX M M := ⟨fun _ _ _ => rfl, fun _ _ => rfl⟩
theorem MX.trans {M M1 M2 : Mm} (h : MX M M1) (h' : MX M1 M2) : MX M M2 := ⟨fun q a b => by rw [h'.1 q a b, h.1 q a b], fun q a => by rw [h'.2 q a, h.2 q a]⟩
theorem CT.tx {T T' : Mm} {len : Nat} {c : Nat → Nat} (h : CT T len c) (hx : TX T T') : CT T' len c := ⟨by rw [hx.2 0 (by decide)]; exact h.1, h.2.1, by rw [hx.1]; exact h.2.2⟩
theorem RT.mx {M M' : Mm} {len : Nat} {c : Nat → Nat} (h : RT M len c) (hx : MX M M') : RT M' len c := ⟨by rw [hx.2 1 (by decide)]; exact h.1, h.2.1, by rw [hx.1 4 (by decide) (by decide)]; exact h.2.2⟩
theorem rt_sign {M : Mm} {len i : Nat} {c : Nat → Nat} (h : RT M len c) (hi : i ≤ len) (hat : M 12 2 = nI i) : (i < len → F_X5_sign M = some (nI (c i))) ∧ (i = len → F_X5_sign M = some (-1)) := by
  have h60 := h.2.1
  unfold F_X5_sign
  rw [h.1, hat]
  refine ⟨fun hl => ?_, fun hl => ?_⟩
  · rw [if_neg (nI_ge hl (by omega)), ck_nI (by omega) (by omega), nI_clamp (by omega), (h.2.2 i hl).1]
  · rw [if_pos (nI_le (by omega) (by omega))]
theorem rt_digit {M : Mm} {len i : Nat} {c : Nat → Nat} (h : RT M len c) (hi : i ≤ len) (hat : M 12 2 = nI i) : ∃ u, F_X5_sign M = some u ∧ (dg len c i → u = nI (c i) ∧ F_X5_in u 48 57 = some 1) ∧ (¬ dg len c i → F_X5_in u 48 57 = some 0) := by
  obtain ⟨h1, h2⟩ := rt_sign h hi hat
  by_cases e : i < len
  · refine ⟨_, h1 e, fun hd => ⟨rfl, ?_⟩, fun hd => ?_⟩
    · rw [pr_in, if_pos (show (48 : Int32) ≤ nI (c i) ∧ nI (c i) ≤ 57 from ⟨nI_le (a := 48) hd.2.1 (by have := hd.2.2; omega), nI_le (b := 57) hd.2.2 (by omega)⟩)]
    · have hc := (h.2.2 i e).2
      rw [pr_in, if_neg (show ¬ ((48 : Int32) ≤ nI (c i) ∧ nI (c i) ≤ 57) from fun z => hd ⟨e, (nI_leI (a := 48) (by omega) (by omega)).mp z.1, (nI_leI (b := 57) (by omega) (by omega)).mp z.2⟩)]
  · refine ⟨_, h2 (by omega), fun hd => absurd hd.1 e, fun _ => by rw [pr_in]; rfl⟩
theorem ct_digit {T R : Mm} {len i : Nat} {c : Nat → Nat} (h : CT T len c) (hi : i ≤ len) (hat : T 2 1 = nI i) : (dg len c i → F_X2_isDigitNext T R = some 1) ∧ (¬ dg len c i → F_X2_isDigitNext T R = some 0) := by
  have h60 := h.2.1
  unfold F_X2_isDigitNext
  rw [h.1, hat]
  by_cases e : i < len
  · have hc := (h.2.2 i e).2
    rw [if_neg (nI_ge e (by omega)), ck_nI (by omega) (by omega), nI_clamp (by omega), (h.2.2 i e).1, pc_within, b1_some]
    refine ⟨fun hd => ?_, fun hd => ?_⟩
    · rw [if_pos (show (48 : Int32) ≤ nI (c i) ∧ nI (c i) ≤ 57 from ⟨nI_le (a := 48) hd.2.1 (by omega), nI_le (b := 57) hd.2.2 (by omega)⟩), if_neg (by decide)]
    · rw [if_neg (show ¬ ((48 : Int32) ≤ nI (c i) ∧ nI (c i) ≤ 57) from fun z => hd ⟨e, (nI_leI (a := 48) (by omega) (by omega)).mp z.1, (nI_leI (b := 57) (by omega) (by omega)).mp z.2⟩), if_pos rfl]
  · rw [if_pos (nI_le (by omega) (by omega))]
    exact ⟨fun hd => absurd hd.1 e, fun _ => rfl⟩
/-- a number: of two digits, of one -/
theorem pc_num1 {T R : Mm} {len i k : Nat} {c : Nat → Nat} (h : CT T len c) (hi : i ≤ len) (hat : T 2 1 = nI i) (hk : k < 4) (hd : ¬ dg len c i) : F_X2_readNumber T R (nI k) = some (0, T) := by
  unfold F_X2_readNumber
  rw [(ct_digit h hi hat).2 hd, b1_some, if_pos rfl]
theorem pc_num2 {T R : Mm} {len i k : Nat} {c : Nat → Nat} (h : CT T len c) (hi : i ≤ len) (hat : T 2 1 = nI i) (hk : k < 4) (hd : dg len c i) : ∃ T' v i', F_X2_readNumber T R (nI k) = some (1, T') ∧ T' 1 k = nI v ∧ v ≤ 99 ∧ (∀ j, j ≠ k → T' 1 j = T 1 j) ∧ T' 2 1 = nI i' ∧ TX T T' ∧ i' ≤ len ∧ ((¬ dg len c (i + 1) ∧ v = c i - 48 ∧ i' = i + 1) ∨ (dg len c (i + 1) ∧ v = 10 * (c i - 48) + (c (i + 1) - 48) ∧ i' = i + 2)) := by
  have h60 := h.2.1
  have hil := hd.1
  have e0 := (h.2.2 i hil).1
  unfold F_X2_readNumber
  rw [(ct_digit h hi hat).1 hd, b1_some, if_neg (by decide), hat, ck_nI (by omega) (by omega), ck_nI hk (by omega), sv_eq, sv_eq, nI_clamp (by omega), nI_clamp (by omega), e0, show (48 : Int32) = nI 48 from rfl, pk_sub hd.2.1, va_up_ne _ _ (show (2 : Nat) ≠ 1 by decide), hat, ← nI_succ]
  have hX : TX T (va_up (va_up T 1 (upd (T 1) k (nI (c i - 48)))) 2 (upd (T 2) 1 (nI (i + 1)))) := ⟨by rw [va_up_ne _ _ (by decide), va_up_ne _ _ (by decide)], fun q hq => by rw [va_up_self, pk_un hq]⟩
  have h8 := h.tx hX
  have hat8 : (va_up (va_up T 1 (upd (T 1) k (nI (c i - 48)))) 2 (upd (T 2) 1 (nI (i + 1)))) 2 1 = nI (i + 1) := by rw [va_up_self, pk_us]
  have h81 : (va_up (va_up T 1 (upd (T 1) k (nI (c i - 48)))) 2 (upd (T 2) 1 (nI (i + 1)))) 1 = upd (T 1) k (nI (c i - 48)) := by rw [va_up_ne _ _ (by decide), va_up_self]
  have h80 : (va_up (va_up T 1 (upd (T 1) k (nI (c i - 48)))) 2 (upd (T 2) 1 (nI (i + 1)))) 0 = T 0 := by rw [va_up_ne _ _ (by decide), va_up_ne _ _ (by decide)]
  have hc9 := hd.2.2
  have hc8 := hd.2.1
  by_cases d2 : dg len c (i + 1)
  · have e1 := (h.2.2 (i + 1) d2.1).1
    have := d2.1
    have d29 := d2.2.2
    rw [(ct_digit h8 (by omega) hat8).1 d2, b1_some, if_neg (by decide), ck_nI hk (by omega), hat8, ck_nI (by omega) (by omega), ck_nI hk (by omega), sv_eq, sv_eq, nI_clamp (by omega), h81, pk_us, h80, e1, show (10 : Int32) = nI 10 from rfl, pk_mul, nI_add, pk_sub (by have := d2.2.1; omega), va_up_ne _ _ (show (2 : Nat) ≠ 1 by decide), hat8, ← nI_succ, va_up_self]
    refine ⟨_, 10 * (c i - 48) + (c (i + 1) - 48), i + 2, rfl, ?_, by omega, fun j hj => ?_, ?_, ⟨?_, fun q hq => ?_⟩, by omega, Or.inr ⟨d2, rfl, rfl⟩⟩
    · rw [va_up_ne _ _ (by decide), va_up_self, pk_us]
      congr 1
      have := d2.2.1
      omega
    · rw [va_up_ne _ _ (by decide), va_up_self, pk_un hj, pk_un hj]
    · rw [va_up_self, pk_us]
    · rw [va_up_ne _ _ (by decide), va_up_ne _ _ (by decide), h80]
    · rw [va_up_self, pk_un hq, pk_un hq]
  · rw [(ct_digit h8 (by omega) hat8).2 d2, b1_some, if_pos rfl]
    exact ⟨_, c i - 48, i + 1, rfl, by rw [h81, pk_us], by omega, fun j hj => by rw [h81, pk_un hj], hat8, hX, by omega, Or.inl ⟨d2, rfl, rfl⟩⟩
theorem pm_n12_stop {M : Mm} {len i b k n : Nat} {c : Nat → Nat} (h : RT M len c) (hi : i ≤ len) (hat : M 12 2 = nI i) (hb : b ≤ i) (hs : ¬ dg len c i ∨ b + 2 ≤ i) : F_X5_readsNumber_12 (n + 1) M (nI k) (nI b) = some (if i ≤ b then 0 else 1, M) := by
  have h60 := h.2.1
  have e72 : F_X5_readsNumber_72 M (nI b) = some (if i ≤ b then 0 else 1, M) := by
    unfold F_X5_readsNumber_72
    rw [hat]
    by_cases e : i ≤ b
    · rw [if_pos (nI_le e (by omega)), if_pos e]
    · rw [if_neg (nI_ge (by omega) (by omega)), if_neg e]
  obtain ⟨u, u1, u2, u3⟩ := rt_digit h hi hat
  show F_X5_readsNumberB_12 (F_X5_readsNumber_12 n) M (nI k) (nI b) = _
  unfold F_X5_readsNumberB_12
  rw [u1, b1_some, b1_some]
  by_cases d : dg len c i
  · rw [(u2 d).2, b1_some, if_neg (by decide), show (2 : Int32) = nI 2 from rfl, nI_add, hat, if_pos (nI_le (hs.resolve_left (fun z => z d)) (by omega))]
    exact e72
  · rw [u3 d, b1_some, if_pos rfl]
    exact e72
theorem pm_n12_go {M : Mm} {len i b k n v : Nat} {c : Nat → Nat} (h : RT M len c) (hi : i ≤ len) (hat : M 12 2 = nI i) (hb : i < b + 2) (hbi : b ≤ i) (hk : k < 4) (hd : dg len c i) (hv : M 5 k = nI v) : ∃ M', F_X5_readsNumber_12 (n + 1) M (nI k) (nI b) = F_X5_readsNumber_12 n M' (nI k) (nI b) ∧ M' 5 k = nI (10 * v + (c i - 48)) ∧ (∀ j, j ≠ k → M' 5 j = M 5 j) ∧ M' 12 2 = nI (i + 1) ∧ MX M M' := by
  have h60 := h.2.1
  have hd8 := hd.2.1
  have hil := hd.1
  obtain ⟨u, u1, u2, u3⟩ := rt_digit h hi hat
  obtain ⟨u4, u5⟩ := u2 hd
  show ∃ M', F_X5_readsNumberB_12 (F_X5_readsNumber_12 n) M (nI k) (nI b) = _ ∧ _
  unfold F_X5_readsNumberB_12
  rw [u1, b1_some, b1_some, u5, b1_some, if_neg (by decide), show (2 : Int32) = nI 2 from rfl, nI_add, hat, if_neg (nI_ge hb (by omega)), ck_nI hk (by omega), ck_nI hk (by omega), sv_eq, sv_eq, nI_clamp (by omega), hv, u4, show (10 : Int32) = nI 10 from rfl, show (48 : Int32) = nI 48 from rfl, pk_mul, nI_add, pk_sub (by omega), va_up_ne _ _ (show (12 : Nat) ≠ 5 by decide), hat, ← nI_succ]
  refine ⟨_, rfl, ?_, fun j hj => ?_, ?_, ⟨fun q a b => ?_, fun q a => ?_⟩⟩
  · rw [va_up_ne _ _ (by decide), va_up_self, pk_us]
    congr 1
    omega
  · rw [va_up_ne _ _ (by decide), va_up_self, pk_un hj]
  · rw [va_up_self, pk_us]
  · rw [va_up_ne _ _ b, va_up_ne _ _ a]
  · rw [va_up_self, pk_un a]
theorem pm_num {M : Mm} {len i k : Nat} {c : Nat → Nat} (h : RT M len c) (hi : i ≤ len) (hat : M 12 2 = nI i) (hk : k < 4) : (¬ dg len c i → ∃ M', F_X5_readsNumber M (nI k) = some (0, M') ∧ M' 12 2 = nI i ∧ MX M M') ∧ (dg len c i → ∃ M' v i', F_X5_readsNumber M (nI k) = some (1, M') ∧ M' 5 k = nI v ∧ (∀ j, j ≠ k → M' 5 j = M 5 j) ∧ M' 12 2 = nI i' ∧ MX M M' ∧ ((¬ dg len c (i + 1) ∧ v = c i - 48 ∧ i' = i + 1) ∨ (dg len c (i + 1) ∧ v = 10 * (c i - 48) + (c (i + 1) - 48) ∧ i' = i + 2))) := by
  have h60 := h.2.1
  unfold F_X5_readsNumber
  rw [ck_nI hk (by omega), sv_eq, nI_clamp (by omega), hat]
  have hX0 : MX M (va_up M 5 (upd (M 5) k 0)) := ⟨fun q a b => by rw [va_up_ne _ _ a], fun q a => by rw [va_up_ne _ _ (by decide)]⟩
  have h0 := h.mx hX0
  have hat0 : (va_up M 5 (upd (M 5) k 0)) 12 2 = nI i := by rw [va_up_ne _ _ (by decide)]; exact hat
  have hv0 : (va_up M 5 (upd (M 5) k 0)) 5 k = nI 0 := by rw [va_up_self, pk_us]; rfl
  refine ⟨fun hd => ?_, fun hd => ?_⟩
  · refine ⟨_, ?_, hat0, hX0⟩
    show F_X5_readsNumber_12 (1099999 + 1) _ _ _ = _
    rw [pm_n12_stop h0 hi hat0 (Nat.le_refl _) (Or.inl hd), if_pos (Nat.le_refl _)]
  · obtain ⟨M1, a1, a2, a3, a4, a5⟩ := pm_n12_go (n := 1099999) h0 hi hat0 (b := i) (by omega) (by omega) hk hd hv0
    have h1 := h0.mx a5
    have hil := hd.1
    have e3 : ∀ j, j ≠ k → M1 5 j = M 5 j := fun j hj => by rw [a3 j hj, va_up_self, pk_un hj]
    by_cases d2 : dg len c (i + 1)
    · obtain ⟨M2, b1', b2', b3', b4', b5'⟩ := pm_n12_go (n := 1099998) h1 (by omega) a4 (b := i) (by omega) (by omega) hk d2 a2
      have h2 := h1.mx b5'
      have := d2.1
      have s := pm_n12_stop (n := 1099997) (k := k) h2 (by omega) b4' (b := i) (by omega) (Or.inr (by omega))
      rw [if_neg (by omega)] at s
      refine ⟨M2, _, i + 2, ?_, b2', fun j hj => by rw [b3' j hj, e3 j hj], b4', (hX0.trans a5).trans b5', Or.inr ⟨d2, by omega, rfl⟩⟩
      show F_X5_readsNumber_12 (1099999 + 1) _ _ _ = _
      rw [a1]
      show F_X5_readsNumber_12 (1099998 + 1) _ _ _ = _
      rw [b1']
      exact s
    · have s := pm_n12_stop (n := 1099998) (k := k) h1 (by omega) a4 (b := i) (by omega) (Or.inl d2)
      rw [if_neg (by omega)] at s
      refine ⟨M1, _, i + 1, ?_, a2, e3, a4, hX0.trans a5, Or.inl ⟨d2, by omega, rfl⟩⟩
      show F_X5_readsNumber_12 (1099999 + 1) _ _ _ = _
      rw [a1]
      exact s
/-- a sign that must stand there -/
theorem pc_sign {T R : Mm} {len i s : Nat} {c : Nat → Nat} (h : CT T len c) (hi : i ≤ len) (hat : T 2 1 = nI i) (hs : s ≤ 126) : ((i < len ∧ c i = s) ∧ ∃ T', F_X2_readSign T R (nI s) = some (1, T') ∧ T' 2 1 = nI (i + 1) ∧ T' 1 = T 1 ∧ TX T T') ∨ (¬ (i < len ∧ c i = s) ∧ F_X2_readSign T R (nI s) = some (0, T)) := by
  have h60 := h.2.1
  unfold F_X2_readSign
  rw [h.1, hat]
  by_cases e : i < len
  · have hc := (h.2.2 i e)
    rw [if_neg (nI_ge e (by omega)), ck_nI (by omega) (by omega), nI_clamp (by omega), hc.1]
    by_cases d : c i = s
    · rw [if_pos (by rw [d]), sv_eq, ← nI_succ]
      refine Or.inl ⟨⟨e, d⟩, _, rfl, by rw [va_up_self, pk_us], by rw [va_up_ne _ _ (by decide)], ⟨by rw [va_up_ne _ _ (by decide)], fun q hq => by rw [va_up_self, pk_un hq]⟩⟩
    · rw [if_neg (fun z => d ((nI_eq (by omega) (by omega)).mp z))]
      exact Or.inr ⟨fun z => d z.2, rfl⟩
  · rw [if_pos (nI_le (by omega) (by omega))]
    exact Or.inr ⟨fun z => e z.1, rfl⟩
theorem pm_sign {M : Mm} {len i s : Nat} {c : Nat → Nat} (h : RT M len c) (hi : i ≤ len) (hat : M 12 2 = nI i) (hs : s ≤ 126) : ∃ u, F_X5_sign M = some u ∧ (u = nI s ↔ (i < len ∧ c i = s)) := by
  obtain ⟨h1, h2⟩ := rt_sign h hi hat
  by_cases e : i < len
  · have hc := (h.2.2 i e)
    exact ⟨_, h1 e, fun z => ⟨e, (nI_eq (by omega) (by omega)).mp z⟩, fun z => by rw [z.2]⟩
  · exact ⟨_, h2 (by omega), fun z => absurd z.symm (nI_n1 (by omega)), fun z => absurd z.1 e⟩
/-- the numbers of a setting, from the one at j on -/
theorem form {R : Mm} {len w : Nat} {c : Nat → Nat} (hw : w ≤ 4) : ∀ (r n n2 j i : Nat) (T M : Mm), j + r + 1 = w → r + 1 < n → r + 1 < n2 → CT T len c → RT M len c → i ≤ len → T 2 1 = nI i → M 12 2 = nI i → (∀ q, q < j → ∃ v, v ≤ 99 ∧ T 1 q = nI v ∧ M 5 q = nI v) → ∃ T' M' i', T' 2 1 = nI i' ∧ M' 12 2 = nI i' ∧ i ≤ i' ∧ i' ≤ len ∧ TX T T' ∧ MX M M' ∧ ((F_X2_readForm_23 n T R (nI w) (nI j) = some (0, T') ∧ F_X5_reads_32 (F_X5_reads_2 n2) M (nI w) (nI j) = some (0, M')) ∨ (F_X2_readForm_23 n T R (nI w) (nI j) = some (1, T') ∧ F_X5_reads_32 (F_X5_reads_2 n2) M (nI w) (nI j) = some (1, M') ∧ i < i' ∧ ∀ q, q < w → ∃ v, v ≤ 99 ∧ T' 1 q = nI v ∧ M' 5 q = nI v)) := by
  intro r
  induction r with
  | zero =>
    intro n n2 j i T M hj hn hn2 hT hM hi hat hat2 hq
    obtain ⟨n, rfl⟩ : ∃ m, n = m + 2 := ⟨n - 2, by omega⟩
    obtain ⟨n2, rfl⟩ : ∃ m, n2 = m + 1 := ⟨n2 - 1, by omega⟩
    have h60 := hT.2.1
    show ∃ T' M' i', _ ∧ _ ∧ _ ∧ _ ∧ _ ∧ _ ∧ ((F_X2_readFormB_23 (F_X2_readForm_23 (n + 1)) T R (nI w) (nI j) = some (0, T') ∧ _) ∨ (F_X2_readFormB_23 (F_X2_readForm_23 (n + 1)) T R (nI w) (nI j) = some (1, T') ∧ _))
    unfold F_X2_readFormB_23 F_X5_reads_32
    rw [if_neg (nI_ge (show j < w by omega) (by omega)), show (1 : Int32) = nI 1 from rfl, pk_sub (by omega)]
    by_cases d : dg len c i
    · obtain ⟨T1, v, i1, a1, a2, a3, a4, a5, a6, a7, a8⟩ := pc_num2 (R := R) hT hi hat (show j < 4 by omega) d
      obtain ⟨M1, v2, i2, b1', b2', b3', b4', b5', b6'⟩ := (pm_num hM hi hat2 (show j < 4 by omega)).2 d
      have hvi : v2 = v ∧ i2 = i1 ∧ i < i1 := by
        rcases a8 with ⟨x1, x2, x3⟩ | ⟨x1, x2, x3⟩ <;> rcases b6' with ⟨y1, y2, y3⟩ | ⟨y1, y2, y3⟩
        · omega
        · exact absurd y1 x1
        · exact absurd x1 y1
        · omega
      obtain ⟨e1, e2, e3⟩ := hvi
      subst e1 e2
      have hT1 := hT.tx a6
      have hM1 := hM.mx b5'
      rw [a1, b2_some, if_neg (by decide), if_pos (show nI j = nI (w - 1) by congr 1; omega), b1', b2_some, if_neg (by decide)]
      obtain ⟨u, u1, u2⟩ := pm_sign (s := 59) hM1 a7 b4' (by omega)
      have hnum : ∀ T2 : Mm, T2 1 = T1 1 → ∀ M2 : Mm, M2 5 = M1 5 → ∀ q, q < w → ∃ v, v ≤ 99 ∧ T2 1 q = nI v ∧ M2 5 q = nI v := by
        intro T2 t2 M2 m2 q hqw
        rw [t2, m2]
        by_cases z : q = j
        · rw [z]; exact ⟨v2, a3, a2, b2'⟩
        · rw [a4 q z, b3' q z]; exact hq q (by omega)
      unfold F_X2_readForm_51
      have er : ∀ nn, F_X5_reads_2 (nn + 1) M1 (nI w) (nI j + nI 1) = if u = (59 : Int32) then some (1, va_up M1 12 (upd (M1 12) 2 (nI (i2 + 1)))) else some (0, va_up M1 12 (upd (M1 12) 2 (nI i2))) := by
        intro nn
        show F_X5_readsB_2 (F_X5_reads_2 nn) M1 (nI w) (nI j + nI 1) = _
        unfold F_X5_readsB_2
        rw [nI_add, if_pos (nI_le (show w ≤ j + 1 by omega) (by omega)), u1, b1_some]
        unfold F_X5_reads_62 F_X5_reads_77
        rw [b4', if_neg (show ¬ (1 : Int32) = 0 by decide), if_pos (show (0 : Int32) = 0 from rfl), sv_eq, sv_eq, cz_1, cz_0]
        show (if u = (59 : Int32) then some ((1 : Int32), va_up M1 12 (upd (M1 12) 2 (nI i2 + nI 1))) else some ((0 : Int32), va_up M1 12 (upd (M1 12) 2 (nI i2 + nI 0)))) = _
        rw [nI_add, nI_add]
        rfl
      rcases pc_sign (R := R) (s := 59) hT1 a7 a5 (by omega) with ⟨s1, T2, s2, s3, s4, s5⟩ | ⟨s1, s2⟩
      · have hu : u = (59 : Int32) := u2.mpr s1
        refine ⟨T2, va_up M1 12 (upd (M1 12) 2 (nI (i2 + 1))), i2 + 1, s3, by rw [va_up_self, pk_us], by omega, by have := s1.1; omega, a6.trans s5, b5'.trans ⟨fun q a b => va_up_ne _ _ b, fun q a => by rw [va_up_self, pk_un a]⟩, Or.inr ⟨?_, ?_, by omega, hnum T2 s4 _ (va_up_ne _ _ (by decide))⟩⟩
        · show b2 (F_X2_readSign T1 R (nI 59)) _ = _
          rw [s2, b2_some, if_neg (by decide)]
          show F_X2_readFormB_23 (F_X2_readForm_23 n) T2 R (nI w) (nI j + nI 1) = _
          unfold F_X2_readFormB_23
          rw [nI_add, if_pos (nI_le (show w ≤ j + 1 by omega) (by omega))]
          rfl
        · rw [er, if_pos hu]; rfl
      · have hu : ¬ u = (59 : Int32) := fun z => s1 (u2.mp z)
        refine ⟨T1, va_up M1 12 (upd (M1 12) 2 (nI i2)), i2, a5, by rw [va_up_self, pk_us], by omega, a7, a6, b5'.trans ⟨fun q a b => va_up_ne _ _ b, fun q a => by rw [va_up_self, pk_un a]⟩, Or.inl ⟨?_, ?_⟩⟩
        · show b2 (F_X2_readSign T1 R (nI 59)) _ = _
          rw [s2, b2_some, if_pos rfl]
        · rw [er, if_neg hu]
    · obtain ⟨M1, b1', b2', b3'⟩ := (pm_num hM hi hat2 (show j < 4 by omega)).1 d
      rw [pc_num1 hT hi hat (show j < 4 by omega) d, b2_some, if_pos rfl, b1', b2_some, if_pos rfl]
      exact ⟨T, M1, i, hat, b2', Nat.le_refl _, hi, TX.refl T, b3', Or.inl ⟨rfl, rfl⟩⟩
  | succ r ih =>
    intro n n2 j i T M hj hn hn2 hT hM hi hat hat2 hq
    obtain ⟨n, rfl⟩ : ∃ m, n = m + 1 := ⟨n - 1, by omega⟩
    obtain ⟨n2, rfl⟩ : ∃ m, n2 = m + 1 := ⟨n2 - 1, by omega⟩
    have h60 := hT.2.1
    show ∃ T' M' i', _ ∧ _ ∧ _ ∧ _ ∧ _ ∧ _ ∧ ((F_X2_readFormB_23 (F_X2_readForm_23 n) T R (nI w) (nI j) = some (0, T') ∧ _) ∨ (F_X2_readFormB_23 (F_X2_readForm_23 n) T R (nI w) (nI j) = some (1, T') ∧ _))
    unfold F_X2_readFormB_23 F_X5_reads_32
    rw [if_neg (nI_ge (show j < w by omega) (by omega)), show (1 : Int32) = nI 1 from rfl, pk_sub (by omega)]
    by_cases d : dg len c i
    · obtain ⟨T1, v, i1, a1, a2, a3, a4, a5, a6, a7, a8⟩ := pc_num2 (R := R) hT hi hat (show j < 4 by omega) d
      obtain ⟨M1, v2, i2, b1', b2', b3', b4', b5', b6'⟩ := (pm_num hM hi hat2 (show j < 4 by omega)).2 d
      have hvi : v2 = v ∧ i2 = i1 ∧ i < i1 := by
        rcases a8 with ⟨x1, x2, x3⟩ | ⟨x1, x2, x3⟩ <;> rcases b6' with ⟨y1, y2, y3⟩ | ⟨y1, y2, y3⟩
        · omega
        · exact absurd y1 x1
        · exact absurd x1 y1
        · omega
      obtain ⟨e1, e2, e3⟩ := hvi
      subst e1 e2
      have hT1 := hT.tx a6
      have hM1 := hM.mx b5'
      rw [a1, b2_some, if_neg (by decide), if_neg (show ¬ nI j = nI (w - 1) from fun z => by have := (nI_eq (by omega) (by omega)).mp z; omega), b1', b2_some, if_neg (by decide)]
      obtain ⟨u, u1, u2⟩ := pm_sign (s := 44) hM1 a7 b4' (by omega)
      have er : F_X5_reads_2 (n2 + 1) M1 (nI w) (nI j + nI 1) = if u = (44 : Int32) then F_X5_reads_32 (F_X5_reads_2 n2) (va_up M1 12 (upd (M1 12) 2 (nI (i2 + 1)))) (nI w) (nI (j + 1)) else some (0, M1) := by
        show F_X5_readsB_2 (F_X5_reads_2 n2) M1 (nI w) (nI j + nI 1) = _
        unfold F_X5_readsB_2
        rw [nI_add, if_neg (nI_ge (show j + 1 < w by omega) (by omega)), if_neg (nI_nle (by omega) (by omega)), u1, b1_some, b4', sv_eq, ← nI_succ]
      unfold F_X2_readForm_51
      rcases pc_sign (R := R) (s := 44) hT1 a7 a5 (by omega) with ⟨s1, T2, s2, s3, s4, s5⟩ | ⟨s1, s2⟩
      · have hu : u = (44 : Int32) := u2.mpr s1
        have hX2 : MX M1 (va_up M1 12 (upd (M1 12) 2 (nI (i2 + 1)))) := ⟨fun q a b => va_up_ne _ _ b, fun q a => by rw [va_up_self, pk_un a]⟩
        obtain ⟨T', M', i', j1, j2, j3, j4, j5, j6, j7⟩ := ih n n2 (j + 1) (i2 + 1) T2 (va_up M1 12 (upd (M1 12) 2 (nI (i2 + 1)))) (by omega) (by omega) (by omega) (hT1.tx s5) (hM1.mx hX2) (by have := s1.1; omega) s3 (by rw [va_up_self, pk_us]) (fun q hqj => by
          rw [s4, va_up_ne _ _ (show (5 : Nat) ≠ 12 by decide)]
          by_cases z : q = j
          · rw [z]; exact ⟨v2, a3, a2, b2'⟩
          · rw [a4 q z, b3' q z]; exact hq q (by omega))
        refine ⟨T', M', i', j1, j2, by omega, j4, (a6.trans s5).trans j5, (b5'.trans hX2).trans j6, ?_⟩
        rw [er, if_pos hu]
        show (b2 (F_X2_readSign T1 R (nI 44)) (fun u1 T2 => if u1 = 0 then some (0, T2) else F_X2_readForm_23 n T2 R (nI w) (nI j + nI 1)) = _ ∧ _) ∨ (b2 (F_X2_readSign T1 R (nI 44)) (fun u1 T2 => if u1 = 0 then some (0, T2) else F_X2_readForm_23 n T2 R (nI w) (nI j + nI 1)) = _ ∧ _)
        rw [s2, b2_some, if_neg (by decide), nI_add]
        rcases j7 with ⟨k1, k2⟩ | ⟨k1, k2, k3, k4⟩
        · exact Or.inl ⟨k1, k2⟩
        · exact Or.inr ⟨k1, k2, by omega, k4⟩
      · have hu : ¬ u = (44 : Int32) := fun z => s1 (u2.mp z)
        refine ⟨T1, M1, i2, a5, b4', by omega, a7, a6, b5', Or.inl ⟨?_, ?_⟩⟩
        · show b2 (F_X2_readSign T1 R (nI 44)) _ = _
          rw [s2, b2_some, if_pos rfl]
        · rw [er, if_neg hu]
    · obtain ⟨M1, b1', b2', b3'⟩ := (pm_num hM hi hat2 (show j < 4 by omega)).1 d
      rw [pc_num1 hT hi hat (show j < 4 by omega) d, b2_some, if_pos rfl, b1', b2_some, if_pos rfl]
      exact ⟨T, M1, i, hat, b2', Nat.le_refl _, hi, TX.refl T, b3', Or.inl ⟨rfl, rfl⟩⟩
