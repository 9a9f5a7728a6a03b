/-! PURE PART: dearest, helpful. -/
theorem SA.symm {A A' : Lay} (h : SA A A') : SA A' A := ⟨h.1.symm, h.2.1.symm, fun k => (h.2.2.1 k).symm, fun k => (h.2.2.2.1 k).symm, fun k => (h.2.2.2.2 k).symm⟩
theorem SA.eqs {A A' : Lay} (h : SA A A') : ns A' = ns A := by
  funext e
  unfold ns
  rw [h.2.1, h.2.2.1]
theorem SA.eqd {A A' : Lay} (h : SA A A') : nd A' = nd A := by
  funext e
  unfold nd
  rw [h.2.1, h.2.2.2.1, h.2.2.2.2]
theorem SA.eqc {A A' : Lay} (h : SA A A') (B : Nat → Nat) (en : Nat) : cx A' B en = cx A B en := by
  funext e
  unfold cx
  rw [h.1, h.2.1, h.2.2.1, h.2.2.2.2]
/-- more taken, more brought -/
theorem fe_le {A A' : Lay} {B B' : Nat → Nat} {en q V V' : Nat} {f f' : Nat → Nat} {T : Lay} (hA : SA A A') (hN : NB A B) (hE : Fe A' B' en f') (hv' : dv (ns A') (nd A') (fv f') 120 = ((V' : Nat) : Int)) (hE2 : Fe A B en f) (hF : FIN A B en f q T) (hv : dv (ns A) (nd A) (fv f) 120 = ((V : Nat) : Int)) (hc : ∀ e, e < 262 → cx A B' en e ≤ cx A B en e) : V' ≤ V := by
  have h1 : Fe A B en f' := ⟨fun e he => Nat.le_trans (hE.1 e he) (by rw [hA.eqc]; exact hc e he), by rw [← hA.eqs, ← hA.eqd]; exact hE.2⟩
  rw [hA.eqs, hA.eqd] at hv'
  have h2 := val_le (fun _ he => ns_lt hN he) (fun _ he => nd_lt hN he) hF.cut h1.fea
  have h3 := val_tig (fun _ he => ns_lt hN he) (fun _ he => nd_lt hN he) hF.cut hE2.fea.2 (hF.tig hE2)
  rw [hv] at h3
  have h4 : dv (ns A) (nd A) (fv f') 120 ≤ cc_ (ns A) (nd A) (cI_ A B en) (RE q T) := h2
  rw [hv', ← h3] at h4
  omega
/-- a net told otherwise, in which a stream and its cut still fit: the same value -/
theorem val_same {A A' : Lay} {B B' : Nat → Nat} {en q q2 V V2 : Nat} {f f2 : Nat → Nat} {T T2 : Lay} (hA : SA A A') (hN : NB A' B') (hE : Fe A B en f) (hF : FIN A B en f q T) (hv : dv (ns A) (nd A) (fv f) 120 = ((V : Nat) : Int)) (hE2 : Fe A' B' en f2) (hF2 : FIN A' B' en f2 q2 T2) (hv2 : dv (ns A') (nd A') (fv f2) 120 = ((V2 : Nat) : Int)) (h1 : ∀ e, e < 262 → f e ≤ cx A B' en e) (h2 : ∀ e, e < 262 → RE q T (ns A e) → ¬ RE q T (nd A e) → f e = cx A B en e → f e = cx A B' en e) : V = V2 := by
  have g1 : Fe A' B' en f := ⟨fun e he => by rw [hA.eqc]; exact h1 e he, by rw [hA.eqs, hA.eqd]; exact hE.2⟩
  have t0 := hF.tig hE
  have t1 : Tig (ns A') (nd A') (cI_ A' B' en) (RE q T) (fv f) := by
    rw [hA.eqs, hA.eqd]
    refine fun e he => ⟨fun ha hb => ?_, (t0 e he).2⟩
    have k1 : ((f e : Nat) : Int) = ((cx A B en e : Nat) : Int) := (t0 e he).1 ha hb
    have k2 := h2 e he ha hb (by omega)
    show ((f e : Nat) : Int) = ((cx A' B' en e : Nat) : Int)
    rw [hA.eqc]
    omega
  have h3 : dv (ns A') (nd A') (fv f) 120 = dv (ns A') (nd A') (fv f2) 120 := max_eq (fun _ he => ns_lt hN he) (fun _ he => nd_lt hN he) g1.fea hE2.fea hF.cut hF2.cut t1 (hF2.tig hE2)
  rw [hv2, hA.eqs, hA.eqd, hv] at h3
  omega
theorem BA_7 {A : Lay} (hB : LB A) {k0 v : Nat} (hk : k0 < A 1 0) (e : Nat) : BA (lyS A 7 k0 v) e = if e < 160 ∧ e / 16 = k0 ∧ 0 < BA A e then v else BA A e := by
  have e1 : lyS A 7 k0 v 1 0 = A 1 0 := rfl
  have e0 : lyS A 7 k0 v 0 0 = A 0 0 := rfl
  have e8 : ∀ k, lyS A 7 k0 v 8 k = A 8 k := fun k => lyS_n A v (Or.inl (by omega))
  have e9 : ∀ k, lyS A 7 k0 v 9 k = A 9 k := fun k => lyS_n A v (Or.inl (by omega))
  have e3 : ∀ k, lyS A 7 k0 v 3 k = A 3 k := fun k => lyS_n A v (Or.inl (by omega))
  have e2 : ∀ k, lyS A 7 k0 v 2 k = A 2 k := fun k => lyS_n A v (Or.inl (by omega))
  by_cases c1 : e < 160
  · unfold BA
    rw [e1, e8, e9]
    rw [if_pos c1, if_pos c1]
    by_cases c2 : e / 16 < A 1 0 ∧ A 8 (e / 16) ≤ e % 16 ∧ e % 16 ≤ A 9 (e / 16)
    · rw [if_pos c2, if_pos c2]
      by_cases c3 : e / 16 = k0
      · have := (hB.2.2.2.2 k0 hk)
        rw [c3, lyS_s, if_pos ⟨c1, rfl, by omega⟩]
      · rw [lyS_n A v (Or.inr c3), if_neg (fun z => c3 z.2.1)]
    · rw [if_neg c2, if_neg c2, if_neg (fun z => by omega)]
  · rw [if_neg (show ¬ (e < 160 ∧ e / 16 = k0 ∧ 0 < BA A e) from fun z => c1 z.1)]
    unfold BA
    rw [e0, e3, e2, if_neg c1, if_neg c1]
theorem WB_7 {A : Lay} (hB : LB A) {k0 v : Nat} (hv : v ≤ 10) : WB (lyS A 7 k0 v) := by
  obtain ⟨h1, h2, h3, h4, h0, h5⟩ := hB.wb
  refine ⟨h1, h2, h3, fun p hp => ?_, ?_, fun k hk => ?_⟩
  · rw [lyS_n A v (Or.inl (by omega)), lyS_n A v (Or.inl (by omega))]; exact h4 p hp
  · rw [lyS_n A v (Or.inl (by omega))]; exact h0
  · obtain ⟨a1, a2, a3, a4, a5, a6, a7, a8⟩ := h5 k hk
    refine ⟨a1, a2, a3, a4, a5, ?_, a7, a8⟩
    by_cases c : k = k0
    · rw [c, lyS_s]; exact hv
    · rw [lyS_n A v (Or.inr c)]; exact a6
theorem pc_mostWithout {L : Mm} {A : Lay} (hB : LB A) (hL : LI L A) {k0 en : Nat} (hk : k0 < A 1 0) (hen : en ≤ 15) (S N : Mm) : ∃ V S' N' f q T, F_X3_mostWithout S N L (nI k0) (nI en) = some (nI V, S', N') ∧ V ≤ 1621 ∧ Fe (lyS A 7 k0 0) (BA (lyS A 7 k0 0)) en f ∧ dv (ns (lyS A 7 k0 0)) (nd (lyS A 7 k0 0)) (fv f) 120 = ((V : Nat) : Int) ∧ FIN (lyS A 7 k0 0) (BA (lyS A 7 k0 0)) en f q T := by
  have h3 := hB.2.2.1
  obtain ⟨N1, c1, -⟩ := pc_copyFrom N L
  have hL1 := LI_copy hB hL c1
  have hL2 : LI (va_up N1 2 (upd (N1 2) (k0 * 6 + 3) (nI 0))) (lyS A 7 k0 0) := LI_part (j0 := 3) hL1 (by omega)
  obtain ⟨V, S', f, q, T, h1, h2, h3', h4, h5, h6, h7⟩ := pc_mostBy (NC_BA hL2 (WB_7 hB (by omega))) (NB_BA (WB_7 hB (by omega))) hen S
  unfold F_X3_mostWithout
  rw [c1, b1_some, show (3 : Int32) = nI 3 from rfl, show (0 : Int32) = nI 0 from rfl, pc_setPart _ (by omega) (by omega), b1_some, h1, b2_some]
  exact ⟨V, S', _, f, q, T, rfl, h2, h3', h4, h6⟩
theorem pc_mostWider {L : Mm} {A : Lay} (hB : LB A) (hL : LI L A) {k0 en : Nat} (hk : k0 < A 1 0) (hen : en ≤ 15) (S N : Mm) : ∃ V S' N' f q T, F_X3_mostWider S N L (nI k0) (nI en) = some (nI V, S', N') ∧ V ≤ 1621 ∧ Fe (lyS A 7 k0 (A 7 k0 + 1)) (BA (lyS A 7 k0 (A 7 k0 + 1))) en f ∧ dv (ns (lyS A 7 k0 (A 7 k0 + 1))) (nd (lyS A 7 k0 (A 7 k0 + 1))) (fv f) 120 = ((V : Nat) : Int) ∧ FIN (lyS A 7 k0 (A 7 k0 + 1)) (BA (lyS A 7 k0 (A 7 k0 + 1))) en f q T := by
  have h3 := hB.2.2.1
  have hb := hB.2.2.2.2 k0 hk
  obtain ⟨N1, c1, -⟩ := pc_copyFrom N L
  have hL1 := LI_copy hB hL c1
  have e7 : L 2 (k0 * 6 + 3) = nI (A 7 k0) := hL.2.2.2 k0 hk 3 (by omega)
  have hL2 : LI (va_up N1 2 (upd (N1 2) (k0 * 6 + 3) (nI (A 7 k0 + 1)))) (lyS A 7 k0 (A 7 k0 + 1)) := LI_part (j0 := 3) hL1 (by omega)
  obtain ⟨V, S', f, q, T, h1, h2, h3', h4, h5, h6, h7⟩ := pc_mostBy (NC_BA hL2 (WB_7 hB (by omega))) (NB_BA (WB_7 hB (by omega))) hen S
  unfold F_X3_mostWider
  rw [c1, b1_some, show (3 : Int32) = nI 3 from rfl, pc_partOf L (by omega) (by omega), e7, b1_some, ← nI_succ, pc_setPart _ (by omega) (by omega), b1_some, h1, b2_some]
  exact ⟨V, S', _, f, q, T, rfl, h2, h3', h4, h6⟩
/-! which pipes carry -/
def Pt (f : Nat → Nat) (t : Nat) : Nat → Prop := fun k => ∃ t', t' < t ∧ 0 < f (16 * k + t')
theorem pc_used_17 {A : Lay} {B f : Nat → Nat} {S N : Mm} (hB : NB A B) (hf : ∀ e, e < 160 → f e ≤ 10) (hF : LF (S 0) A B f) (k4 : Mm → Mm → Int32 → Int32 → Option Int32) {k : Nat} (hk : k < A 1 0) : ∀ (r n t : Nat), t + r = 16 → r < n → F_X3_usedPipes_17 k4 n S N (nI (sb (Pt f 16) k + pb (Pt f t) k)) (nI k) (nI t) = k4 S N (nI (sb (Pt f 16) k + pb (Pt f 16) k)) (nI (k + 1))
  | r, 0, t, _, h => by omega
  | 0, n + 1, t, ht, h => by
    have e : t = 16 := by omega
    show F_X3_usedPipesB_17 k4 (F_X3_usedPipes_17 k4 n) S N _ (nI k) (nI t) = _
    unfold F_X3_usedPipesB_17
    rw [e, if_pos (by decide), ← nI_succ]
  | r + 1, n + 1, t, ht, h => by
    have hm := hB.2.2.1
    have ih := pc_used_17 (N := N) hB hf hF k4 hk r n (t + 1) (by omega) (by omega)
    have hl : live A (16 * k + t) := Or.inl ⟨by omega, by omega⟩
    have hs := sb_lt (Pt f 16) k
    have hft := hf (16 * k + t) (by omega)
    show F_X3_usedPipesB_17 k4 (F_X3_usedPipes_17 k4 n) S N _ (nI k) (nI t) = _
    unfold F_X3_usedPipesB_17
    rw [if_neg (show ¬ (16 : Int32) ≤ nI t from nI_ge (b := 16) (by omega) (by omega)), pc_through, b1_some, pc_back_e (by omega), b1_some, ck_nI (by omega) (by omega), nI_clamp (by omega), (hF _ hl).2, ← nI_succ]
    by_cases c : f (16 * k + t) = 0
    · rw [if_pos (by rw [c]; decide)]
      have e : pb (Pt f (t + 1)) k = pb (Pt f t) k := by
        by_cases d : Pt f t k
        · obtain ⟨t', d1, d2⟩ := d
          rw [pb_1 (⟨t', by omega, d2⟩ : Pt f (t + 1) k), pb_1 (⟨t', d1, d2⟩ : Pt f t k)]
        · rw [pb_0 d, pb_0 (fun ⟨t', d1, d2⟩ => d ⟨t', by
            by_cases z : t' = t
            · rw [z] at d2; omega
            · omega, d2⟩)]
      rw [e] at ih
      exact ih
    · rw [if_neg (nI_nle (by omega) (by omega))]
      rw [pb_1 (⟨t, by omega, by omega⟩ : Pt f (t + 1) k)] at ih
      by_cases d : Pt f t k
      · rw [pb_1 d, or_bit2 k (by omega) _ hs]; exact ih
      · rw [pb_0 d, Nat.add_zero, or_bit k (by omega) _ hs]; exact ih
theorem pc_used_4 {A : Lay} {B f : Nat → Nat} {S N : Mm} (hN : NC N A B) (hB : NB A B) (hf : ∀ e, e < 160 → f e ≤ 10) (hF : LF (S 0) A B f) : ∀ (r n k : Nat), k + r = A 1 0 → r < n → F_X3_usedPipes_4 n S N (nI (sb (Pt f 16) k)) (nI k) = some (nI (sb (Pt f 16) (A 1 0)))
  | r, 0, k, _, h => by omega
  | 0, n + 1, k, hk, h => by
    have hm := hB.2.2.1
    have e : k = A 1 0 := by omega
    show F_X3_usedPipesB_4 (F_X3_usedPipes_4 n) S N _ (nI k) = _
    unfold F_X3_usedPipesB_4
    rw [hN.2.1, e, if_pos (nI_le (Nat.le_refl _) (by omega))]
  | r + 1, n + 1, k, hk, h => by
    have hm := hB.2.2.1
    have hkm : k < A 1 0 := by omega
    have ih := pc_used_4 hN hB hf hF r n (k + 1) (by omega) (by omega)
    have h17 := pc_used_17 (N := N) hB hf hF (F_X3_usedPipes_4 n) hkm 16 FU 0 (by omega) (by rw [FU_eq]; omega)
    rw [pb_0 (fun ⟨t', d1, _⟩ => by omega : ¬ Pt f 0 k), Nat.add_zero] at h17
    show F_X3_usedPipesB_4 (F_X3_usedPipes_4 n) S N _ (nI k) = _
    unfold F_X3_usedPipesB_4
    rw [hN.2.1, if_neg (nI_ge hkm (by omega)), show (0 : Int32) = nI 0 from rfl, h17]
    exact ih
theorem pc_used {A : Lay} {B f : Nat → Nat} {S N : Mm} {en : Nat} (hN : NC N A B) (hB : NB A B) (hE : Fe A B en f) (hF : LF (S 0) A B f) : F_X3_usedPipes S N = some (nI (sb (Pt f 16) (A 1 0))) :=
  pc_used_4 hN hB (fun e he => by
    have := hE.1 e (by omega)
    have := cx_le (G := A) (B := B) (en := en) (e := e)
    have := hB.2.2.2.2.2.1 e he
    omega) hF (A 1 0) FU 0 (by omega) (by have := hB.2.2.1; rw [FU_eq]; omega)
/-- the reference, without a pipe; with a wider one -/
theorem pm_less {M : Mm} {A : Lay} (hB : LB A) (hM : MI (M 0) A) (h8 : M 12 8 = -1) (h9 : M 12 9 = -1) (h10 : M 12 10 = -1) {k0 en : Nat} (hk : k0 < A 1 0) (hen : en ≤ 15) : ∃ V M' f q T, F_X5_comes (va_up M 12 (upd (M 12) 7 (nI k0))) (nI en) = some (nI V, M') ∧ V ≤ 1621 ∧ Fe (lyS A 7 k0 0) (BA (lyS A 7 k0 0)) en f ∧ dv (ns (lyS A 7 k0 0)) (nd (lyS A 7 k0 0)) (fv f) 120 = ((V : Nat) : Int) ∧ FIN (lyS A 7 k0 0) (BA (lyS A 7 k0 0)) en f q T ∧ (∀ j, j < 6 → M' j = M j) ∧ (∀ j, j ≠ 5 → j ≠ 6 → j ≠ 7 → M' 12 j = M 12 j) := by
  obtain ⟨V2, M', f2, q2, T2, b1', b2', b3', b4', b5', b6', b7', b8'⟩ := pm_comes (M := va_up M 12 (upd (M 12) 7 (nI k0))) (NB_BA (WB_7 hB (v := 0) (k0 := k0) (by omega))) hen (MC_less hB (by rw [va_up_ne _ _ (by decide), va_up_ne _ _ (by decide)]; exact hM) hk (by rw [va_up_self, pk_un (by decide), va_up_self, pk_us]) (by rw [va_up_self, pk_un (by decide), va_up_self, pk_un (by decide)]; exact h8) (by rw [va_up_self, pk_un (by decide), va_up_self, pk_un (by decide)]; exact h9) (by rw [va_up_self, pk_un (by decide), va_up_self, pk_un (by decide)]; exact h10) (by rw [va_up_self, pk_us]) hen (WB_7 hB (by omega)))
  refine ⟨V2, M', f2, q2, T2, b1', b2', b3', b4', b5', fun j hj => ?_, fun j h5 h6 h7 => ?_⟩
  · rw [b7'.1 j hj, va_up_ne _ _ (by omega)]
  · rw [b7'.2 j h5 h6, va_up_self, pk_un h7]
theorem pm_wider {M : Mm} {A : Lay} (hB : LB A) (hM : MI (M 0) A) (h7 : M 12 7 = -1) (h9 : M 12 9 = -1) (h10 : M 12 10 = -1) {k0 en : Nat} (hk : k0 < A 1 0) (hen : en ≤ 15) : ∃ V M' f q T, F_X5_comes (va_up M 12 (upd (M 12) 8 (nI k0))) (nI en) = some (nI V, M') ∧ V ≤ 1621 ∧ Fe (lyS A 7 k0 (A 7 k0 + 1)) (BA (lyS A 7 k0 (A 7 k0 + 1))) en f ∧ dv (ns (lyS A 7 k0 (A 7 k0 + 1))) (nd (lyS A 7 k0 (A 7 k0 + 1))) (fv f) 120 = ((V : Nat) : Int) ∧ FIN (lyS A 7 k0 (A 7 k0 + 1)) (BA (lyS A 7 k0 (A 7 k0 + 1))) en f q T ∧ (∀ j, j < 6 → M' j = M j) ∧ (∀ j, j ≠ 5 → j ≠ 6 → j ≠ 8 → M' 12 j = M 12 j) := by
  have hb := hB.2.2.2.2 k0 hk
  obtain ⟨V2, M', f2, q2, T2, b1', b2', b3', b4', b5', b6', b7', b8'⟩ := pm_comes (M := va_up M 12 (upd (M 12) 8 (nI k0))) (NB_BA (WB_7 hB (v := A 7 k0 + 1) (k0 := k0) (by omega))) hen (MC_wider hB (by rw [va_up_ne _ _ (by decide), va_up_ne _ _ (by decide)]; exact hM) hk (by rw [va_up_self, pk_un (by decide), va_up_self, pk_un (by decide)]; exact h7) (by rw [va_up_self, pk_un (by decide), va_up_self, pk_us]) (by rw [va_up_self, pk_un (by decide), va_up_self, pk_un (by decide)]; exact h9) (by rw [va_up_self, pk_un (by decide), va_up_self, pk_un (by decide)]; exact h10) (by rw [va_up_self, pk_us]) hen (WB_7 hB (by omega)))
  refine ⟨V2, M', f2, q2, T2, b1', b2', b3', b4', b5', fun j hj => ?_, fun j h5 h6 h7 => ?_⟩
  · rw [b7'.1 j hj, va_up_ne _ _ (by omega)]
  · rw [b7'.2 j h5 h6, va_up_self, pk_un h7]
/-- a pipe that carries nothing can be missed -/
theorem less_same {A : Lay} (hB : LB A) {k0 en q q2 V V2 : Nat} {f f2 : Nat → Nat} {T T2 : Lay} (hk : k0 < A 1 0) (hE : Fe A (BA A) en f) (hF : FIN A (BA A) en f q T) (hv : dv (ns A) (nd A) (fv f) 120 = ((V : Nat) : Int)) (hE2 : Fe (lyS A 7 k0 0) (BA (lyS A 7 k0 0)) en f2) (hF2 : FIN (lyS A 7 k0 0) (BA (lyS A 7 k0 0)) en f2 q2 T2) (hv2 : dv (ns (lyS A 7 k0 0)) (nd (lyS A 7 k0 0)) (fv f2) 120 = ((V2 : Nat) : Int)) (hn : ¬ Pt f 16 k0) : V = V2 := by
  have hz : ∀ e, e < 160 → e / 16 = k0 → f e = 0 := by
    intro e he h
    by_cases c : f e = 0
    · exact c
    · exact absurd ⟨e % 16, by omega, by rw [show 16 * k0 + e % 16 = e by omega]; omega⟩ hn
  have hcx : ∀ e, f e ≤ cx A (BA A) en e → f e ≤ cx A (BA (lyS A 7 k0 0)) en e ∧ (f e = cx A (BA A) en e → f e = cx A (BA (lyS A 7 k0 0)) en e) := by
    intro e he
    by_cases c : e < 160 ∧ e / 16 = k0
    · have h0 := hz e c.1 c.2
      have h1 : cx A (BA (lyS A 7 k0 0)) en e = 0 := by
        have h2 := BA_7 hB (v := 0) hk e
        have h3 := cx_le (G := A) (B := BA (lyS A 7 k0 0)) (en := en) (e := e)
        by_cases d : 0 < BA A e
        · rw [if_pos ⟨c.1, c.2, d⟩] at h2; omega
        · rw [if_neg (fun z => d z.2.2)] at h2; omega
      rw [h0, h1]
      exact ⟨Nat.le_refl _, fun _ => rfl⟩
    · have h2 := BA_7 hB (v := 0) hk e
      rw [if_neg (fun z => c ⟨z.1, z.2.1⟩)] at h2
      have h1 : cx A (BA (lyS A 7 k0 0)) en e = cx A (BA A) en e := by unfold cx; rw [h2]
      rw [h1]
      exact ⟨he, fun z => z⟩
  exact val_same (SA_S A k0 0 (by omega)) (NB_BA (WB_7 hB (by omega))) hE hF hv hE2 hF2 hv2 (fun e he => (hcx e (hE.1 e he)).1) (fun e he _ _ h => (hcx e (hE.1 e he)).2 h)
theorem less_le {A : Lay} (hB : LB A) {k0 en q V V2 : Nat} {f f2 : Nat → Nat} {T : Lay} (hk : k0 < A 1 0) (hE : Fe A (BA A) en f) (hF : FIN A (BA A) en f q T) (hv : dv (ns A) (nd A) (fv f) 120 = ((V : Nat) : Int)) (hE2 : Fe (lyS A 7 k0 0) (BA (lyS A 7 k0 0)) en f2) (hv2 : dv (ns (lyS A 7 k0 0)) (nd (lyS A 7 k0 0)) (fv f2) 120 = ((V2 : Nat) : Int)) : V2 ≤ V := by
  refine fe_le (SA_S A k0 0 (by omega)) (NB_BA hB.wb) hE2 hv2 hE hF hv (fun e _ => ?_)
  have h2 := BA_7 hB (v := 0) hk e
  have h3 : BA (lyS A 7 k0 0) e ≤ BA A e := by rw [h2]; split <;> omega
  unfold cx
  split
  · split <;> omega
  · split <;> split <;> omega
/-- a wider pipe that isn't narrow helps nothing -/
theorem wide_same {A : Lay} (hB : LB A) {k0 en q q2 V V2 : Nat} {f f2 : Nat → Nat} {T T2 : Lay} (hk : k0 < A 1 0) (hen : en ≤ 15) (hE : Fe A (BA A) en f) (hF : FIN A (BA A) en f q T) (hv : dv (ns A) (nd A) (fv f) 120 = ((V : Nat) : Int)) (hE2 : Fe (lyS A 7 k0 (A 7 k0 + 1)) (BA (lyS A 7 k0 (A 7 k0 + 1))) en f2) (hF2 : FIN (lyS A 7 k0 (A 7 k0 + 1)) (BA (lyS A 7 k0 (A 7 k0 + 1))) en f2 q2 T2) (hv2 : dv (ns (lyS A 7 k0 (A 7 k0 + 1))) (nd (lyS A 7 k0 (A 7 k0 + 1))) (fv f2) 120 = ((V2 : Nat) : Int)) (hn : ¬ NP A (BA A) en q T k0) : V = V2 := by
  have hb := hB.2.2.2.2 k0 hk
  have hmono : ∀ e, BA A e ≤ BA (lyS A 7 k0 (A 7 k0 + 1)) e := by
    intro e
    rw [BA_7 hB hk e]
    by_cases c : e < 160 ∧ e / 16 = k0 ∧ 0 < BA A e
    · rw [if_pos c]
      unfold BA
      rw [if_pos c.1]
      split
      · rw [c.2.1]; omega
      · omega
    · rw [if_neg c]; omega
  have hcm : ∀ e, cx A (BA A) en e ≤ cx A (BA (lyS A 7 k0 (A 7 k0 + 1))) en e := by
    intro e
    have := hmono e
    unfold cx
    split
    · split <;> omega
    · split <;> split <;> omega
  refine val_same (SA_S A k0 _ (by omega)) (NB_BA (WB_7 hB (by omega))) hE hF hv hE2 hF2 hv2 (fun e he => Nat.le_trans (hE.1 e he) (hcm e)) (fun e he ha hd h => ?_)
  by_cases c : (e < 160 ∧ e / 16 = k0 ∧ 0 < BA A e) ∧ A 4 k0 ≠ 0 ∧ e % 16 + A 6 k0 ≤ en
  · exfalso
    obtain ⟨⟨c1, c2, c3⟩, c4, c5⟩ := c
    refine hn ⟨e % 16, c5, by rw [show 16 * k0 + e % 16 = e by omega]; exact c3, ?_, ?_⟩
    · have h1 : ns A e = 16 * A 4 k0 + e % 16 := by unfold ns; rw [if_pos c1, c2, if_pos hk]
      rw [h1] at ha; exact ha
    · have h1 : nd A e = 16 * A 5 k0 + (e % 16 + A 6 k0) := by unfold nd; rw [if_pos c1, c2, if_pos ⟨hk, by omega⟩]
      rw [h1] at hd; exact hd
  · have h2 : cx A (BA (lyS A 7 k0 (A 7 k0 + 1))) en e = cx A (BA A) en e := by
      by_cases d : e < 160 ∧ e / 16 = k0 ∧ 0 < BA A e
      · unfold cx
        rw [if_pos d.1, if_pos d.1, d.2.1, if_neg (fun z => c ⟨d, z.2⟩), if_neg (fun z => c ⟨d, z.2⟩)]
      · have h3 := BA_7 hB (v := A 7 k0 + 1) hk e
        rw [if_neg d] at h3
        unfold cx
        rw [h3]
    rw [h2]; exact h
theorem wide_ge {A : Lay} (hB : LB A) {k0 en q2 V V2 : Nat} {f f2 : Nat → Nat} {T2 : Lay} (hk : k0 < A 1 0) (hE : Fe A (BA A) en f) (hv : dv (ns A) (nd A) (fv f) 120 = ((V : Nat) : Int)) (hE2 : Fe (lyS A 7 k0 (A 7 k0 + 1)) (BA (lyS A 7 k0 (A 7 k0 + 1))) en f2) (hF2 : FIN (lyS A 7 k0 (A 7 k0 + 1)) (BA (lyS A 7 k0 (A 7 k0 + 1))) en f2 q2 T2) (hv2 : dv (ns (lyS A 7 k0 (A 7 k0 + 1))) (nd (lyS A 7 k0 (A 7 k0 + 1))) (fv f2) 120 = ((V2 : Nat) : Int)) : V ≤ V2 := by
  have hb := hB.2.2.2.2 k0 hk
  refine fe_le (SA_S A k0 (A 7 k0 + 1) (i0 := 7) (by omega)).symm (NB_BA (WB_7 hB (by omega))) hE hv hE2 hF2 hv2 (fun e _ => ?_)
  have h3 : BA A e ≤ BA (lyS A 7 k0 (A 7 k0 + 1)) e := by
    rw [BA_7 hB hk e]
    by_cases c : e < 160 ∧ e / 16 = k0 ∧ 0 < BA A e
    · rw [if_pos c]
      unfold BA
      rw [if_pos c.1]
      split
      · rw [c.2.1]; omega
      · omega
    · rw [if_neg c]; omega
  unfold cx
  split
  · split <;> omega
  · split <;> split <;> omega
