/-! PURE PART: pipe. -/
/-- the layout with a pipe more -/
def lyL (A : Lay) (a b c d : Nat) : Lay := fun i j => if i = 1 then A 1 0 + 1 else if j = A 1 0 then (if i = 4 then a else if i = 5 then b else if i = 6 then c else if i = 7 then d else if i = 8 then 0 else if i = 9 then 15 else A i j) else A i j
theorem lyL_n (A : Lay) (a b c d : Nat) {i j : Nat} (hi : i ≠ 1) (h : j ≠ A 1 0) : lyL A a b c d i j = A i j := by
  unfold lyL
  rw [if_neg hi, if_neg h]
theorem lyL_l (A : Lay) (a b c d : Nat) {i : Nat} (j : Nat) (hi : i = 0 ∨ i = 2 ∨ i = 3) : lyL A a b c d i j = A i j := by
  unfold lyL
  rw [if_neg (by omega), if_neg (show ¬ i = 4 by omega), if_neg (show ¬ i = 5 by omega), if_neg (show ¬ i = 6 by omega), if_neg (show ¬ i = 7 by omega), if_neg (show ¬ i = 8 by omega), if_neg (show ¬ i = 9 by omega)]
  split <;> rfl
theorem lyL_s (A : Lay) (a b c d : Nat) : lyL A a b c d 4 (A 1 0) = a ∧ lyL A a b c d 5 (A 1 0) = b ∧ lyL A a b c d 6 (A 1 0) = c ∧ lyL A a b c d 7 (A 1 0) = d ∧ lyL A a b c d 8 (A 1 0) = 0 ∧ lyL A a b c d 9 (A 1 0) = 15 := by
  refine ⟨?_, ?_, ?_, ?_, ?_, ?_⟩
  · unfold lyL; rw [if_neg (by decide), if_pos rfl, if_pos rfl]
  · unfold lyL; rw [if_neg (by decide), if_pos rfl, if_neg (by decide), if_pos rfl]
  · unfold lyL; rw [if_neg (by decide), if_pos rfl, if_neg (by decide), if_neg (by decide), if_pos rfl]
  · unfold lyL; rw [if_neg (by decide), if_pos rfl, if_neg (by decide), if_neg (by decide), if_neg (by decide), if_pos rfl]
  · unfold lyL; rw [if_neg (by decide), if_pos rfl, if_neg (by decide), if_neg (by decide), if_neg (by decide), if_neg (by decide), if_pos rfl]
  · unfold lyL; rw [if_neg (by decide), if_pos rfl, if_neg (by decide), if_neg (by decide), if_neg (by decide), if_neg (by decide), if_neg (by decide), if_pos rfl]
/-- six numbers behind each other -/
def u6 (s : Nat → Int32) (b : Nat) (v0 v1 v2 v3 v4 v5 : Int32) : Nat → Int32 := upd (upd (upd (upd (upd (upd s b v0) (b + 1) v1) (b + 2) v2) (b + 3) v3) (b + 4) v4) (b + 5) v5
theorem u6_n {s : Nat → Int32} {b j : Nat} {v0 v1 v2 v3 v4 v5 : Int32} (h : j < b ∨ b + 6 ≤ j) : u6 s b v0 v1 v2 v3 v4 v5 j = s j := by
  unfold u6
  rw [pk_un (by omega), pk_un (by omega), pk_un (by omega), pk_un (by omega), pk_un (by omega), pk_un (by omega)]
theorem u6_s (s : Nat → Int32) (b : Nat) (v0 v1 v2 v3 v4 v5 : Int32) : u6 s b v0 v1 v2 v3 v4 v5 b = v0 ∧ u6 s b v0 v1 v2 v3 v4 v5 (b + 1) = v1 ∧ u6 s b v0 v1 v2 v3 v4 v5 (b + 2) = v2 ∧ u6 s b v0 v1 v2 v3 v4 v5 (b + 3) = v3 ∧ u6 s b v0 v1 v2 v3 v4 v5 (b + 4) = v4 ∧ u6 s b v0 v1 v2 v3 v4 v5 (b + 5) = v5 := by
  unfold u6
  refine ⟨?_, ?_, ?_, ?_, ?_, ?_⟩
  · rw [pk_un (by omega), pk_un (by omega), pk_un (by omega), pk_un (by omega), pk_un (by omega), pk_us]
  · rw [pk_un (by omega), pk_un (by omega), pk_un (by omega), pk_un (by omega), pk_us]
  · rw [pk_un (by omega), pk_un (by omega), pk_un (by omega), pk_us]
  · rw [pk_un (by omega), pk_un (by omega), pk_us]
  · rw [pk_un (by omega), pk_us]
  · rw [pk_us]
theorem pm_lays {M : Mm} {A : Lay} (h : MI (M 0) A) (hA : A 1 0 < 10) (x1 x2 x3 x4 : Int32) : F_X5_lays M x1 x2 x3 x4 = some (nI (A 1 0), va_up M 0 (upd (u6 (M 0) (14 + 6 * A 1 0) x1 x2 x3 x4 0 15) 1 (nI (A 1 0 + 1)))) := by
  unfold F_X5_lays u6
  rw [show (1 : Int32) = nI 1 from rfl, show (2 : Int32) = nI 2 from rfl, show (3 : Int32) = nI 3 from rfl, show (4 : Int32) = nI 4 from rfl, show (5 : Int32) = nI 5 from rfl, show (6 : Int32) = nI 6 from rfl, show (14 : Int32) = nI 14 from rfl, ck_nI (by omega) (by omega), nI_clamp (by omega), h.2.1, if_neg (show ¬ nI (A 1 0) = (10 : Int32) from fun z => by have := (nI_eq (a := A 1 0) (b := 10) (by omega) (by omega)).mp z; omega), ck_nI (by omega) (by omega), pk_mul, nI_add, ck_nI (by omega) (by omega), sv_eq, nI_add, ck_nI (by omega) (by omega), sv_eq, nI_add, ck_nI (by omega) (by omega), sv_eq, nI_add, ck_nI (by omega) (by omega), sv_eq, nI_add, ck_nI (by omega) (by omega), sv_eq, nI_add, ck_nI (by omega) (by omega), sv_eq, ck_nI (by omega) (by omega), ck_nI (by omega) (by omega), sv_eq, ck_nI (by omega) (by omega), nI_clamp (by omega), nI_clamp (by omega), nI_clamp (by omega), nI_clamp (by omega), nI_clamp (by omega), nI_clamp (by omega), bx_uu, bx_uu, bx_uu, bx_uu, bx_uu, bx_uu, va_up_self, va_up_self, va_up_self, va_up_self, va_up_self, va_up_self, va_up_self, pk_us]
  have e1 : upd (upd (upd (upd (upd (upd (M 0) (14 + 6 * A 1 0) x1) (14 + 6 * A 1 0 + 1) x2) (14 + 6 * A 1 0 + 2) x3) (14 + 6 * A 1 0 + 3) x4) (14 + 6 * A 1 0 + 4) 0) (14 + 6 * A 1 0 + 5) 15 1 = nI (A 1 0) := by
    rw [pk_un (by omega), pk_un (by omega), pk_un (by omega), pk_un (by omega), pk_un (by omega), pk_un (by omega)]; exact h.2.1
  rw [e1, nI_add, pk_sub (by omega), Nat.add_sub_cancel]
theorem pc_addPipe {L : Mm} {A : Lay} (h : LI L A) (hA : A 1 0 < 10) (x1 x2 x3 x4 : Int32) : ∃ L', F_X1_addPipe L x1 x2 x3 x4 = some (nI (A 1 0), L') ∧ L' 3 0 = L 3 0 ∧ L' 3 1 = nI (A 1 0 + 1) ∧ L' 0 = L 0 ∧ L' 1 = L 1 ∧ L' 2 = u6 (L 2) (A 1 0 * 6) x1 x2 x3 x4 0 15 := by
  unfold F_X1_addPipe F_X1_setOpening
  rw [sv_eq, h.2.1, show (0 : Int32) = nI 0 from rfl, show (1 : Int32) = nI 1 from rfl, show (2 : Int32) = nI 2 from rfl, show (3 : Int32) = nI 3 from rfl, show (4 : Int32) = nI 4 from rfl, show (5 : Int32) = nI 5 from rfl, pc_setPart _ hA (by omega), b1_some, pc_setPart _ hA (by omega), b1_some, pc_setPart _ hA (by omega), b1_some, pc_setPart _ hA (by omega), b1_some, pc_setPart _ hA (by omega), b1_some, pc_setPart _ hA (by omega), b1_some, b1_some, bx_uu, bx_uu, bx_uu, bx_uu, bx_uu]
  refine ⟨_, rfl, ?_, ?_, ?_, ?_, ?_⟩
  · rw [va_up_ne _ _ (by decide), va_up_self, pk_un (by decide)]
  · rw [va_up_ne _ _ (by decide), va_up_self, pk_us, nI_add]
  · rw [va_up_ne _ _ (by decide), va_up_ne _ _ (by decide)]
  · rw [va_up_ne _ _ (by decide), va_up_ne _ _ (by decide)]
  · rw [va_up_self, va_up_self, va_up_self, va_up_self, va_up_self, va_up_self, va_up_ne _ _ (show (2 : Nat) ≠ 3 by decide)]
    rfl
theorem LI_pipe {L L' : Mm} {A : Lay} {a b c d : Nat} (h : LI L A) (h30 : L' 3 0 = L 3 0) (h31 : L' 3 1 = nI (A 1 0 + 1)) (h0 : L' 0 = L 0) (h1 : L' 1 = L 1) (h2 : L' 2 = u6 (L 2) (A 1 0 * 6) (nI a) (nI b) (nI c) (nI d) 0 15) : LI L' (lyL A a b c d) := by
  obtain ⟨s0, s1, s2, s3, s4, s5⟩ := u6_s (L 2) (A 1 0 * 6) (nI a) (nI b) (nI c) (nI d) 0 15
  obtain ⟨l0, l1, l2, l3, l4, l5⟩ := lyL_s A a b c d
  refine ⟨by rw [h30, lyL_l A a b c d 0 (by omega)]; exact h.1, h31, fun p hp => ?_, fun k hk j hj => ?_⟩
  · rw [lyL_l A a b c d 0 (by omega)] at hp
    rw [h0, h1, lyL_l A a b c d p (by omega), lyL_l A a b c d p (by omega)]; exact h.2.2.1 p hp
  · have hk : k < A 1 0 + 1 := hk
    rw [h2]
    by_cases e : k = A 1 0
    · subst e
      rcases (show j = 0 ∨ j = 1 ∨ j = 2 ∨ j = 3 ∨ j = 4 ∨ j = 5 by omega) with rfl | rfl | rfl | rfl | rfl | rfl
      · rw [show A 1 0 * 6 + 0 = A 1 0 * 6 from rfl, s0, show 4 + 0 = 4 from rfl, l0]
      · rw [s1, show 4 + 1 = 5 from rfl, l1]
      · rw [s2, show 4 + 2 = 6 from rfl, l2]
      · rw [s3, show 4 + 3 = 7 from rfl, l3]
      · rw [s4, show 4 + 4 = 8 from rfl, l4]; rfl
      · rw [s5, show 4 + 5 = 9 from rfl, l5]; rfl
    · rw [u6_n (by omega), lyL_n A a b c d (by omega) e]; exact h.2.2.2 k (by omega) j hj
theorem MI_pipe {s : Nat → Int32} {A : Lay} {a b c d : Nat} (hB : LB A) (h : MI s A) (hA : A 1 0 < 10) : MI (upd (u6 s (14 + 6 * A 1 0) (nI a) (nI b) (nI c) (nI d) 0 15) 1 (nI (A 1 0 + 1))) (lyL A a b c d) := by
  have hB2 := hB.2.1
  obtain ⟨s0, s1, s2, s3, s4, s5⟩ := u6_s s (14 + 6 * A 1 0) (nI a) (nI b) (nI c) (nI d) 0 15
  obtain ⟨l0, l1, l2, l3, l4, l5⟩ := lyL_s A a b c d
  refine ⟨by rw [pk_un (by omega), u6_n (by omega), lyL_l A a b c d 0 (by omega)]; exact h.1, pk_us, fun p hp => ?_, fun k hk j hj => ?_⟩
  · rw [lyL_l A a b c d 0 (by omega)] at hp
    rw [pk_un (by omega), u6_n (by omega), pk_un (by omega), u6_n (by omega), lyL_l A a b c d p (by omega), lyL_l A a b c d p (by omega)]; exact h.2.2.1 p hp
  · have hk : k < A 1 0 + 1 := hk
    rw [pk_un (by omega)]
    by_cases e : k = A 1 0
    · subst e
      rcases (show j = 0 ∨ j = 1 ∨ j = 2 ∨ j = 3 ∨ j = 4 ∨ j = 5 by omega) with rfl | rfl | rfl | rfl | rfl | rfl
      · rw [show 14 + 6 * A 1 0 + 0 = 14 + 6 * A 1 0 from rfl, s0, show 4 + 0 = 4 from rfl, l0]
      · rw [s1, show 4 + 1 = 5 from rfl, l1]
      · rw [s2, show 4 + 2 = 6 from rfl, l2]
      · rw [s3, show 4 + 3 = 7 from rfl, l3]
      · rw [s4, show 4 + 4 = 8 from rfl, l4]; rfl
      · rw [s5, show 4 + 5 = 9 from rfl, l5]; rfl
    · rw [u6_n (by omega), lyL_n A a b c d (by omega) e]; exact h.2.2.2 k (by omega) j hj
theorem LB_pipe {A : Lay} {a b c d : Nat} (hB : LB A) (hA : A 1 0 < 10) (ha : a < A 0 0) (hb : b < A 0 0) (hab : a ≠ b) (hc : 1 ≤ c) (hc4 : c ≤ 4) (hd : 1 ≤ d) (hd9 : d ≤ 9) : LB (lyL A a b c d) := by
  obtain ⟨l0, l1, l2, l3, l4, l5⟩ := lyL_s A a b c d
  obtain ⟨h1, h2, h3, h4, h5⟩ := hB
  refine ⟨by rw [lyL_l A a b c d 0 (by omega)]; exact h1, by rw [lyL_l A a b c d 0 (by omega)]; exact h2, by show A 1 0 + 1 ≤ 10; omega, fun p hp => ?_, fun k hk => ?_⟩
  · rw [lyL_l A a b c d 0 (by omega)] at hp
    rw [lyL_l A a b c d p (by omega), lyL_l A a b c d p (by omega)]; exact h4 p hp
  · have hk : k < A 1 0 + 1 := hk
    rw [lyL_l A a b c d 0 (by omega)]
    by_cases e : k = A 1 0
    · rw [e, l0, l1, l2, l3, l4, l5]
      exact ⟨ha, hb, hab, hc, hc4, hd, hd9, by omega, by omega⟩
    · rw [lyL_n A a b c d (by omega) e, lyL_n A a b c d (by omega) e, lyL_n A a b c d (by omega) e, lyL_n A a b c d (by omega) e, lyL_n A a b c d (by omega) e, lyL_n A a b c d (by omega) e]
      exact h5 k (by omega)
theorem pm_full {M : Mm} {A : Lay} (h : MI (M 0) A) (hA : A 1 0 = 10) (x1 x2 x3 x4 : Int32) : F_X5_lays M x1 x2 x3 x4 = some ((-1000003 : Int32), M) := by
  show ck (nI 1) 74 (if (M 0 (nI 1).toNatClampNeg) = (10 : Int32) then some ((-1000003 : Int32), M) else _) = _
  rw [ck_nI (by omega) (by omega), if_pos (by rw [nI_clamp (by omega), h.2.1, hA]; rfl)]
/-- which number of a pipe is wrong, as the class tells it -/
theorem pc_badOfPipe {L : Mm} {A : Lay} (h : L 3 0 = nI (A 0 0)) (x1 x2 x3 x4 : Int32) : F_X1_badOfPipe L x1 x2 x3 x4 = some (if (0 : Int32) ≤ x1 ∧ x1 ≤ nI (A 0 0) - 1 then (if ((0 : Int32) ≤ x2 ∧ x2 ≤ nI (A 0 0) - 1) ∧ ¬ x2 = x1 then (if (1 : Int32) ≤ x3 ∧ x3 ≤ 4 then (if (1 : Int32) ≤ x4 ∧ x4 ≤ 9 then -1 else 3) else 2) else 1) else 0) := by
  unfold F_X1_badOfPipe
  rw [pc_isPlace h, b1_some]
  by_cases c1 : (0 : Int32) ≤ x1 ∧ x1 ≤ nI (A 0 0) - 1
  · rw [if_pos c1, if_pos c1, if_neg (by decide), pc_isPlace h, b1_some]
    by_cases c2 : (0 : Int32) ≤ x2 ∧ x2 ≤ nI (A 0 0) - 1
    · rw [if_pos c2, if_neg (by decide)]
      by_cases c3 : x2 = x1
      · rw [if_pos c3, if_neg (fun z => z.2 c3)]
      · rw [if_neg c3, if_pos ⟨c2, c3⟩, pc_within, b1_some]
        by_cases c4 : (1 : Int32) ≤ x3 ∧ x3 ≤ 4
        · rw [if_pos c4, if_neg (by decide), pc_within, b1_some, if_pos c4]
          by_cases c5 : (1 : Int32) ≤ x4 ∧ x4 ≤ 9
          · rw [if_pos c5, if_neg (by decide), if_pos c5]
          · rw [if_neg c5, if_pos rfl, if_neg c5]
        · rw [if_neg c4, if_pos rfl, if_neg c4]
    · rw [if_neg c2, if_pos rfl, if_neg (fun z => c2 z.1)]
  · rw [if_neg c1, if_pos rfl, if_neg c1]
theorem st_pipe {L K : Mm} {P : Nat → Nat} {Hs : Nat → Mm} {S N T R M : Mm} (h : INV L K P Hs S N T R M) (x1 : Int32) (x2 : Int32) (x3 : Int32) (x4 : Int32) : ∃ (r : Int32) (L' : Mm) (K' : Mm) (P' : Nat → Nat) (Hs' : Nat → Mm) (M' : Mm), F_X4_pipe L K P Hs S N T R x1 x2 x3 x4 = some (r, L', K', P', Hs') ∧ F_X5_pipe M x1 x2 x3 x4 = some (r, M') ∧ INV L' K' P' Hs' S N T R M' := by
  have hI := h
  obtain ⟨A, kept, Ah, len, hB, hL, hM, hC, hH, hT, hF⟩ := h
  have hB2 := hB.2.1
  have hB3 := hB.2.2.1
  unfold F_X4_pipe F_X5_pipe
  rw [pc_badOfPipe hL.1, b1_some, pm_isPlace hM.1, b1_some]
  by_cases c1 : (0 : Int32) ≤ x1 ∧ x1 ≤ nI (A 0 0) - 1
  · rw [if_pos c1, if_pos c1, if_neg (show ¬ (1 : Int32) = 0 by decide), pm_isPlace hM.1, b1_some]
    by_cases c2 : (0 : Int32) ≤ x2 ∧ x2 ≤ nI (A 0 0) - 1
    · rw [if_pos c2, if_neg (show ¬ (1 : Int32) = 0 by decide)]
      by_cases c3 : x1 = x2
      · rw [if_pos c3, if_neg (show ¬ (((0 : Int32) ≤ x2 ∧ x2 ≤ nI (A 0 0) - 1) ∧ ¬ x2 = x1) from fun z => z.2 c3.symm), if_neg (by decide)]
        exact ⟨_, _, _, _, _, _, rfl, rfl, hI⟩
      · rw [if_neg c3, if_pos (show (((0 : Int32) ≤ x2 ∧ x2 ≤ nI (A 0 0) - 1) ∧ ¬ x2 = x1) from ⟨c2, fun z => c3 z.symm⟩), pr_in, b1_some]
        by_cases c4 : (1 : Int32) ≤ x3 ∧ x3 ≤ 4
        · rw [if_pos c4, if_pos c4, if_neg (show ¬ (1 : Int32) = 0 by decide), pr_in, b1_some]
          by_cases c5 : (1 : Int32) ≤ x4 ∧ x4 ≤ 9
          · rw [if_pos c5, if_pos c5, if_neg (show ¬ (1 : Int32) = 0 by decide), if_pos rfl]
            obtain ⟨a, ha, rfl⟩ := rg0 (by omega) c1
            obtain ⟨b, hb, rfl⟩ := rg0 (by omega) c2
            obtain ⟨c, hc1, hc4, rfl⟩ := rg (a := 1) (b := 4) (by omega) (by omega) c4
            obtain ⟨d, hd1, hd9, rfl⟩ := rg (a := 1) (b := 9) (by omega) (by omega) c5
            have hab : a ≠ b := fun z => c3 (by rw [z])
            obtain ⟨g, k1, k2⟩ := pr_keeps M
            have hM2 : MI (va_up M 2 g 0) A := by rw [va_up_ne _ _ (by decide)]; exact hM
            unfold F_X1_pipesAreFull
            rw [k1, b1_some, hL.2.1]
            by_cases c6 : A 1 0 < 10
            · rw [if_pos (show nI (A 1 0) < (10 : Int32) from nI_lt (b := 10) c6 (by omega)), b1_some, if_pos rfl]
              obtain ⟨K', P', Hs', k3, hC'⟩ := pc_keep hC hB hL
              obtain ⟨L', a1, a2, a3, a4, a5, a6⟩ := pc_addPipe hL c6 (nI a) (nI b) (nI c) (nI d)
              have hM0 : va_up M 2 g 0 = M 0 := va_up_ne _ _ (by decide)
              obtain ⟨M', m1, m2, m4, m5, m6, m7⟩ := pm_act (M3 := va_up (va_up M 2 g) 0 (upd (u6 (M 0) (14 + 6 * A 1 0) (nI a) (nI b) (nI c) (nI d) 0 15) 1 (nI (A 1 0 + 1)))) (r := A 1 0) hC.1 hB hM hH k2 (fun q hq => va_up_ne _ _ hq) (by omega)
              rw [k3, b3_some, a1, b2_some, pm_lays hM2 c6, b2_some, hM0, m1, b2_some]
              refine ⟨_, _, _, _, _, _, rfl, rfl, INV_ch (B := lyL A a b c d) (M := M) (LB_pipe hB c6 ha hb hab hc1 hc4 hd1 hd9) (LI_pipe hL a2 a3 a4 a5 a6) hC' m2 ?_ m4 m5 m6 m7 hT hF⟩
              rw [va_up_self]
              exact MI_pipe hB hM c6
            · have h10 : A 1 0 = 10 := by omega
              rw [if_neg (show ¬ nI (A 1 0) < (10 : Int32) from by rw [h10]; decide), b1_some, if_neg (show ¬ (1 : Int32) = 0 by decide), pm_full hM2 h10, b2_some]
              have n1 : F_X5_acted (va_up M 2 g) (-1000003 : Int32) = some ((-1000003 : Int32), va_up M 2 g) := by
                unfold F_X5_acted
                rw [if_pos (by decide)]
              rw [n1, b2_some]
              refine ⟨_, _, _, _, _, _, rfl, rfl, ?_⟩
              exact INV_M hI (by rw [va_up_ne _ _ (by decide)]) (by rw [va_up_ne _ _ (by decide)]) (by rw [va_up_ne _ _ (by decide)]) (fun j _ => by rw [va_up_ne _ _ (by decide)])
          · rw [if_neg c5, if_neg c5, if_pos rfl, if_neg (by decide)]
            exact ⟨_, _, _, _, _, _, rfl, rfl, hI⟩
        · rw [if_neg c4, if_neg c4, if_pos rfl, if_neg (by decide)]
          exact ⟨_, _, _, _, _, _, rfl, rfl, hI⟩
    · rw [if_neg c2, if_pos rfl, if_neg (show ¬ (((0 : Int32) ≤ x2 ∧ x2 ≤ nI (A 0 0) - 1) ∧ ¬ x2 = x1) from fun z => c2 z.1), if_neg (by decide)]
      exact ⟨_, _, _, _, _, _, rfl, rfl, hI⟩
  · rw [if_neg c1, if_neg c1, if_pos rfl, if_neg (by decide)]
    exact ⟨_, _, _, _, _, _, rfl, rfl, hI⟩
