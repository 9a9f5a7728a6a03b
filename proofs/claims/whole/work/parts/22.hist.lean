/-! PURE PART: the history on both sides. -/
theorem MI_of {s s' : Nat → Int32} {A : Lay} (hB : LB A) (h : MI s A) (e : ∀ j, j < 74 → s' j = s j) : MI s' A := by
  obtain ⟨b1, b2, b3, b4, b5⟩ := hB
  obtain ⟨h1, h2, h3, h4⟩ := h
  refine ⟨by rw [e 0 (by omega)]; exact h1, by rw [e 1 (by omega)]; exact h2, fun p hp => ?_, fun k hk j hj => ?_⟩
  · rw [e _ (by omega), e _ (by omega)]; exact h3 p hp
  · rw [e _ (by omega)]; exact h4 k hk j hj
theorem LI_of {L L' : Mm} {A : Lay} (hB : LB A) (h : LI L A) (e0 : ∀ j, j < 6 → L' 0 j = L 0 j) (e1 : ∀ j, j < 6 → L' 1 j = L 1 j) (e2 : ∀ j, j < 60 → L' 2 j = L 2 j) (e3 : ∀ j, j < 2 → L' 3 j = L 3 j) : LI L' A := by
  obtain ⟨b1, b2, b3, b4, b5⟩ := hB
  obtain ⟨h1, h2, h3, h4⟩ := h
  refine ⟨by rw [e3 0 (by omega)]; exact h1, by rw [e3 1 (by omega)]; exact h2, fun p hp => ?_, fun k hk j hj => ?_⟩
  · rw [e0 _ (by omega), e1 _ (by omega)]; exact h3 p hp
  · rw [e2 _ (by omega)]; exact h4 k hk j hj
theorem cp_in {α : Type} {sp dp n : Nat} {n0 n1 : Nat} {x : Option α} (h0 : sp + n ≤ n0) (h1 : dp + n ≤ n1) (hn0 : n0 < 2 ^ 31) (hn1 : n1 < 2 ^ 31) : cp (nI sp) (nI dp) (nI n) n0 n1 x = x := by
  unfold cp
  rw [if_pos]
  rw [nI_clamp (by omega), nI_clamp (by omega), nI_clamp (by omega)]
  exact ⟨nI_pos (by omega), nI_pos (by omega), nI_pos (by omega), h0, h1⟩
/-- a layout's copy -/
theorem pc_copyFrom (L O : Mm) : ∃ L', F_X1_copyFrom L O = some L' ∧ (∀ j, j < 6 → L' 0 j = O 0 j) ∧ (∀ j, j < 6 → L' 1 j = O 1 j) ∧ (∀ j, j < 60 → L' 2 j = O 2 j) ∧ (∀ j, j < 2 → L' 3 j = O 3 j) := by
  unfold F_X1_copyFrom
  rw [show (0 : Int32) = nI 0 from rfl, show (6 : Int32) = nI 6 from rfl, show (60 : Int32) = nI 60 from rfl]
  rw [cp_in (by omega) (by omega) (by omega) (by omega), sv_eq, cp_in (by omega) (by omega) (by omega) (by omega), sv_eq, cp_in (by omega) (by omega) (by omega) (by omega), sv_eq, sv_eq, sv_eq]
  refine ⟨_, rfl, fun j hj => ?_, fun j hj => ?_, fun j hj => ?_, fun j hj => ?_⟩
  · simp [va_up, va_cpy, hj, nI_clamp]
  · simp [va_up, va_cpy, hj, nI_clamp]
  · simp [va_up, va_cpy, hj, nI_clamp]
  · rcases (show j = 0 ∨ j = 1 by omega) with rfl | rfl <;> simp [va_up, upd]
theorem LI_copy {L O L' : Mm} {A : Lay} (hB : LB A) (h : LI O A) (hc : F_X1_copyFrom L O = some L') : LI L' A := by
  obtain ⟨L2, e, h0, h1, h2, h3⟩ := pc_copyFrom L O
  rw [e] at hc
  cases hc
  exact LI_of hB h h0 h1 h2 h3
theorem nI_4 {k : Nat} (h : k ≤ 4) : nI k = (4 : Int32) ↔ k = 4 := nI_eq (a := k) (b := 4) (by omega) (by omega)
theorem rot_at (P : Nat → Nat) : rot P 0 = P 1 ∧ rot P 1 = P 2 ∧ rot P 2 = P 3 ∧ rot P 3 = P 0 := by
  refine ⟨?_, ?_, ?_, ?_⟩ <;> simp [rot, va_up]
theorem pc_copyAt {kept : Nat} {K : Mm} {P : Nat → Nat} {Hs : Nat → Mm} {L : Mm} (hk : kept < 4) (hK : K 0 0 = nI kept) (hP : P kept < 4) : ∃ L', F_X1_copyFrom (Hs (P kept)) L = some L' ∧ F_X0_copyAt K P Hs L = some (va_up Hs (P kept) L') := by
  obtain ⟨L2, e, -⟩ := pc_copyFrom (Hs (P kept)) L
  refine ⟨L2, e, ?_⟩
  unfold F_X0_copyAt
  rw [hK, ck_nI hk (by omega), nI_clamp (by omega), if_pos hP, e, b1_some]
theorem HC_push {kept : Nat} {Ah : Nat → Lay} {A : Lay} {K : Mm} {P : Nat → Nat} {Hs : Nat → Mm} {L L' : Mm} (hk : kept < 4) (h : HC kept Ah K P Hs) (hB : LB A) (hL : LI L A) (hc : F_X1_copyFrom (Hs (P kept)) L = some L') : HC (kept + 1) (fun i => if i = kept then A else Ah i) (va_up K 0 (upd (K 0) 0 (K 0 0 + 1))) P (va_up Hs (P kept) L') := by
  obtain ⟨h1, h2, h3, h4, h5⟩ := h
  refine ⟨by omega, ?_, h3, h4, fun i hi => ?_⟩
  · rw [va_up_self, pk_us, h2, nI_succ]
  · by_cases hik : i = kept
    · show LI _ (if i = kept then A else Ah i)
      rw [if_pos hik, hik, va_up_self]
      exact LI_copy hB hL hc
    · show LI _ (if i = kept then A else Ah i)
      rw [if_neg hik, va_up_ne _ _ (fun z => hik (h4 i kept (by omega) hk z))]
      exact h5 i (by omega)
/-- the class's history takes a layout -/
theorem pc_keep {kept : Nat} {Ah : Nat → Lay} {A : Lay} {K : Mm} {P : Nat → Nat} {Hs : Nat → Mm} {L : Mm} (h : HC kept Ah K P Hs) (hB : LB A) (hL : LI L A) : ∃ K' P' Hs', F_X0_keep K P Hs L = some (K', P', Hs') ∧ HC (nk kept) (nA kept Ah A) K' P' Hs' := by
  unfold F_X0_keep
  by_cases hk : kept = 4
  · subst hk
    have hd : F_X0_dropOldest K P = some (va_up K 0 (upd (K 0) 0 (K 0 0 - 1)), rot P) := by
      unfold F_X0_dropOldest
      rw [if_pos ⟨h.2.2.1 0 (by omega), h.2.2.1 1 (by omega), h.2.2.1 2 (by omega), h.2.2.1 3 (by omega)⟩]
    rw [if_pos (show K 0 0 = (4 : Int32) from h.2.1), hd, b2_some]
    obtain ⟨r0, r1, r2, r3⟩ := rot_at P
    obtain ⟨g1, g2, g3, g4, g5⟩ := h
    have hC : HC 3 (fun i => Ah (i + 1)) (va_up K 0 (upd (K 0) 0 (K 0 0 - 1))) (rot P) Hs := by
      refine ⟨by omega, ?_, fun i hi => ?_, fun i j hi hj e => ?_, fun i hi => ?_⟩
      · rw [va_up_self, pk_us, g2]; exact nI_pred 3
      · rcases lt4 hi with rfl | rfl | rfl | rfl
        · rw [r0]; exact g3 1 (by omega)
        · rw [r1]; exact g3 2 (by omega)
        · rw [r2]; exact g3 3 (by omega)
        · rw [r3]; exact g3 0 (by omega)
      · rcases lt4 hi with rfl | rfl | rfl | rfl <;> rcases lt4 hj with rfl | rfl | rfl | rfl <;> (try rfl) <;> simp only [r0, r1, r2, r3] at e <;> exact absurd (g4 _ _ (by omega) (by omega) e) (by decide)
      · rcases (show i = 0 ∨ i = 1 ∨ i = 2 by omega) with rfl | rfl | rfl
        · rw [r0]; exact g5 1 (by omega)
        · rw [r1]; exact g5 2 (by omega)
        · rw [r2]; exact g5 3 (by omega)
    obtain ⟨L', e1, e2⟩ := pc_copyAt (Hs := Hs) (L := L) (kept := 3) (by omega) hC.2.1 (hC.2.2.1 3 (by omega))
    rw [e2, b1_some]
    refine ⟨_, _, _, rfl, ?_⟩
    have := HC_push (by omega) hC hB hL e1
    exact this
  · have hk4 : kept < 4 := by have := h.1; omega
    have e0 : ¬ K 0 0 = (4 : Int32) := by rw [h.2.1, nI_4 h.1]; exact hk
    rw [if_neg e0]
    obtain ⟨L', e1, e2⟩ := pc_copyAt (Hs := Hs) (L := L) hk4 h.2.1 (h.2.2.1 kept hk4)
    rw [e2, b1_some]
    refine ⟨_, _, _, rfl, ?_⟩
    have := HC_push hk4 h hB hL e1
    have n1 : nk kept = kept + 1 := if_neg hk
    have n2 : nA kept Ah A = fun i => if i = kept then A else Ah i := by funext i; unfold nA; rw [if_neg hk]
    rw [n1, n2]
    exact this
/-- the reference's history takes what has been begun: the copying -/
theorem pr_acted_56 {c : Nat} (hc : c < 4) (x : Int32) : ∀ (r n k : Nat) (M : Mm), k + r = 74 → r < n → M 12 0 = nI c → ∃ f : Nat → Int32, F_X5_acted_56 n M x (nI k) = some (x, va_up (va_up M 1 f) 12 (upd (M 12) 0 (nI (c + 1)))) ∧ (∀ j, k ≤ j → j < 74 → f (74 * c + j) = M 2 j) ∧ (∀ q, q < 74 * c + k → f q = M 1 q)
  | r, 0, k, M, _, h, _ => by omega
  | 0, n + 1, k, M, hk, h, hM => by
    have hk : k = 74 := by omega
    subst hk
    refine ⟨M 1, ?_, fun j h1 h2 => by omega, fun q _ => rfl⟩
    have e : va_up M 1 (M 1) = M := by funext q; unfold va_up; by_cases h : q = 1; rw [if_pos h, h]; rw [if_neg h]
    rw [e]
    show F_X5_actedB_56 (F_X5_acted_56 n) M x (nI 74) = _
    unfold F_X5_actedB_56
    rw [if_pos (by decide), sv_eq, hM, nI_succ]
  | r + 1, n + 1, k, M, hk, h, hM => by
    have e1 : ¬ (74 : Int32) ≤ nI k := nI_ge (a := k) (b := 74) (by omega) (by omega)
    show ∃ f, F_X5_actedB_56 (F_X5_acted_56 n) M x (nI k) = _ ∧ _
    unfold F_X5_actedB_56
    rw [if_neg e1, ck_nI (by omega) (by omega), hM, show (74 : Int32) = nI 74 from rfl, pk_mul, nI_add, ck_nI (by omega) (by omega), sv_eq, nI_clamp (by omega), nI_clamp (by omega), ← nI_succ]
    obtain ⟨f, h1, h2, h3⟩ := pr_acted_56 hc x r n (k + 1) (va_up M 1 (upd (M 1) (74 * c + k) (M 2 k))) (by omega) (by omega) (by rw [va_up_ne _ _ (by decide)]; exact hM)
    refine ⟨f, ?_, fun j hj hj2 => ?_, fun q hq => ?_⟩
    · rw [h1]
      congr 2
      rw [va_up_ne _ _ (by decide)]
      congr 1
      funext q
      unfold va_up
      by_cases h : q = 1
      · rw [if_pos h, if_pos h]
      · rw [if_neg h, if_neg h, if_neg h]
    · by_cases hjk : j = k
      · rw [hjk, h3 _ (by omega), va_up_self]; exact pk_us
      · rw [h2 j (by omega) hj2, va_up_ne _ _ (by decide)]
    · rw [h3 q (by omega), va_up_self, pk_un (by omega)]
/-- and before it, the oldest is dropped -/
theorem pr_acted_16 (x : Int32) : ∀ (r n k : Nat) (M : Mm), k + r = 222 → r < n → M 12 0 = nI 4 → (∀ j, j < 74 → ∃ y, M 2 j = y) → ∃ g : Nat → Int32, F_X5_acted_16 n M x (nI k) = F_X5_acted_56 FU (va_up (va_up M 1 g) 12 (upd (M 12) 0 (nI 3))) x (nI 0) ∧ (∀ j, k ≤ j → j < 222 → g j = M 1 (j + 74)) ∧ (∀ q, q < k → g q = M 1 q)
  | r, 0, k, M, _, h, _, _ => by omega
  | 0, n + 1, k, M, hk, h, hM, hz => by
    have hk : k = 222 := by omega
    subst hk
    refine ⟨M 1, ?_, fun j h1 h2 => by omega, fun q _ => rfl⟩
    have e : va_up M 1 (M 1) = M := by funext q; unfold va_up; by_cases h : q = 1; rw [if_pos h, h]; rw [if_neg h]
    rw [e]
    show F_X5_actedB_16 (F_X5_acted_16 n) M x (nI 222) = _
    unfold F_X5_actedB_16
    rw [if_pos (by decide), sv_eq, hM]
    rfl
  | r + 1, n + 1, k, M, hk, h, hM, hz => by
    have e1 : ¬ (222 : Int32) ≤ nI k := nI_ge (a := k) (b := 222) (by omega) (by omega)
    show ∃ g, F_X5_actedB_16 (F_X5_acted_16 n) M x (nI k) = _ ∧ _
    unfold F_X5_actedB_16
    rw [if_neg e1, show (74 : Int32) = nI 74 from rfl, nI_add, ck_nI (by omega) (by omega), ck_nI (by omega) (by omega), sv_eq, nI_clamp (by omega), nI_clamp (by omega), ← nI_succ]
    obtain ⟨g, h1, h2, h3⟩ := pr_acted_16 x r n (k + 1) (va_up M 1 (upd (M 1) k (M 1 (k + 74)))) (by omega) (by omega) (by rw [va_up_ne _ _ (by decide)]; exact hM) (fun j hj => ⟨_, rfl⟩)
    refine ⟨g, ?_, fun j hj hj2 => ?_, fun q hq => ?_⟩
    · rw [h1]
      congr 1
      rw [va_up_ne _ _ (by decide)]
      congr 1
      funext q
      unfold va_up
      by_cases h : q = 1
      · rw [if_pos h, if_pos h]
      · rw [if_neg h, if_neg h, if_neg h]
    · by_cases hjk : j = k
      · rw [hjk, h3 _ (by omega), va_up_self]; exact pk_us
      · rw [h2 j (by omega) hj2, va_up_self, pk_un (by omega)]
    · rw [h3 q (by omega), va_up_self, pk_un (by omega)]
/-- the reference's history takes what has been begun -/
theorem pr_acted {kept : Nat} {Ah : Nat → Lay} {A : Lay} {M : Mm} {x : Int32} (hk : kept ≤ 4) (hM : HM kept Ah M) (hB : LB A) (hG : MI (M 2) A) (hx : ¬ x ≤ (-1000001 : Int32)) : ∃ M', F_X5_acted M x = some (x, M') ∧ HM (nk kept) (nA kept Ah A) M' ∧ (∀ q, q ≠ 1 → q ≠ 12 → M' q = M q) ∧ ∀ j, j ≠ 0 → M' 12 j = M 12 j := by
  unfold F_X5_acted
  rw [if_neg hx]
  by_cases h4 : kept = 4
  · subst h4
    rw [if_pos (show M 12 0 = (4 : Int32) from hM.1)]
    obtain ⟨g, g1, g2, g3⟩ := pr_acted_16 x 222 FU 0 M rfl (by decide) hM.1 (fun j _ => ⟨_, rfl⟩)
    rw [show (0 : Int32) = nI 0 from rfl, g1]
    obtain ⟨f, f1, f2, f3⟩ := pr_acted_56 (c := 3) (by omega) x 74 FU 0 (va_up (va_up M 1 g) 12 (upd (M 12) 0 (nI 3))) rfl (by decide) (by rw [va_up_self]; exact pk_us)
    rw [f1]
    refine ⟨_, rfl, ⟨by rw [va_up_self]; exact pk_us, fun i hi => ?_⟩, fun q h1 h2 => ?_, fun j hj => ?_⟩
    · have hi : i < 4 := hi
      by_cases h3 : i = 3
      · subst h3
        refine ⟨hB, MI_of hB hG (fun j hj => ?_)⟩
        show (va_up _ 12 _ : Mm) 1 _ = _
        rw [va_up_ne _ _ (by decide), va_up_self, f2 j (by omega) hj, va_up_ne _ _ (by decide), va_up_ne _ _ (by decide)]
      · obtain ⟨m1, m2⟩ := hM.2 (i + 1) (by omega)
        have e : nA 4 Ah A i = Ah (i + 1) := by unfold nA; rw [if_pos rfl, if_neg h3]
        rw [e]
        refine ⟨m1, MI_of m1 m2 (fun j hj => ?_)⟩
        show (va_up _ 12 _ : Mm) 1 _ = M 1 (74 * (i + 1) + j)
        rw [va_up_ne _ _ (by decide), va_up_self, f3 _ (by omega), va_up_ne _ _ (by decide), va_up_self, g2 _ (by omega) (by omega), show 74 * i + j + 74 = 74 * (i + 1) + j by omega]
    · rw [va_up_ne _ _ h2, va_up_ne _ _ h1, va_up_ne _ _ h2, va_up_ne _ _ h1]
    · rw [va_up_self, pk_un hj, va_up_self, pk_un hj]
  · rw [if_neg (by rw [hM.1, nI_4 hk]; exact h4), show (0 : Int32) = nI 0 from rfl]
    obtain ⟨f, f1, f2, f3⟩ := pr_acted_56 (c := kept) (by omega) x 74 FU 0 M rfl (by decide) hM.1
    rw [f1]
    have n1 : nk kept = kept + 1 := if_neg h4
    have n2 : nA kept Ah A = fun i => if i = kept then A else Ah i := by funext i; unfold nA; rw [if_neg h4]
    rw [n1, n2]
    refine ⟨_, rfl, ⟨by rw [va_up_self]; exact pk_us, fun i hi => ?_⟩, fun q h1 h2 => ?_, fun j hj => ?_⟩
    · by_cases h3 : i = kept
      · show LB (if i = kept then A else Ah i) ∧ MI _ (if i = kept then A else Ah i)
        rw [if_pos h3]
        refine ⟨hB, MI_of hB hG (fun j hj => ?_)⟩
        show (va_up _ 12 _ : Mm) 1 _ = _
        rw [va_up_ne _ _ (by decide), va_up_self, h3, f2 j (by omega) hj]
      · show LB (if i = kept then A else Ah i) ∧ MI _ (if i = kept then A else Ah i)
        rw [if_neg h3]
        obtain ⟨m1, m2⟩ := hM.2 i (by omega)
        refine ⟨m1, MI_of m1 m2 (fun j hj => ?_)⟩
        show (va_up _ 12 _ : Mm) 1 _ = M 1 (74 * i + j)
        rw [va_up_ne _ _ (by decide), va_up_self, f3 _ (by omega)]
    · rw [va_up_ne _ _ h2, va_up_ne _ _ h1]
    · rw [va_up_self, pk_un hj]
