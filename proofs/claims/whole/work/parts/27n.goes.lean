/-! PURE PART: the reference: goes, comes. -/
section REF3
variable {G : Lay} {B : Nat → Nat} {en : Nat}
theorem ag_120 (a : Nat) (T : Lay) (f : Nat → Nat) : ∀ r, ag a T r 120 f = f
  | 0 => rfl
  | _ + 1 => if_pos rfl
theorem RF_p {M : Mm} {f : Nat → Nat} (h : RF M f) {e : Nat} (he : e < 160) (y : Nat) : RF (va_up M 8 (upd (M 8) e (nI y))) (va_up f e y) := by
  refine ⟨fun i hi => ?_, fun i hi => ?_, fun p hp => ?_⟩
  · rw [va_up_self]
    by_cases c : i = e
    · rw [c, pk_us, va_up_self]
    · rw [pk_un c, va_up_ne _ _ c]; exact h.1 i hi
  · rw [va_up_ne _ _ (by decide), va_up_ne _ _ (by omega)]; exact h.2.1 i hi
  · rw [va_up_ne _ _ (by decide), va_up_ne _ _ (by omega)]; exact h.2.2 p hp
theorem RF_w {M : Mm} {f : Nat → Nat} (h : RF M f) {e : Nat} (he : e < 96) (y : Nat) : RF (va_up M 7 (upd (M 7) e (nI y))) (va_up f (160 + e) y) := by
  refine ⟨fun i hi => ?_, fun i hi => ?_, fun p hp => ?_⟩
  · rw [va_up_ne _ _ (by decide), va_up_ne _ _ (by omega)]; exact h.1 i hi
  · rw [va_up_self]
    by_cases c : i = e
    · rw [c, pk_us, va_up_self]
    · rw [pk_un c, va_up_ne _ _ (by omega)]; exact h.2.1 i hi
  · rw [va_up_ne _ _ (by decide), va_up_ne _ _ (by omega)]; exact h.2.2 p hp
theorem RF_o {M : Mm} {f : Nat → Nat} (h : RF M f) {e : Nat} (he : e < 6) (y : Nat) : RF (va_up M 6 (upd (M 6) e (nI y))) (va_up f (256 + e) y) := by
  refine ⟨fun i hi => ?_, fun i hi => ?_, fun p hp => ?_⟩
  · rw [va_up_ne _ _ (by decide), va_up_ne _ _ (by omega)]; exact h.1 i hi
  · rw [va_up_ne _ _ (by decide), va_up_ne _ _ (by omega)]; exact h.2.1 i hi
  · rw [va_up_self]
    by_cases c : p = e
    · rw [c, pk_us, va_up_self]
    · rw [pk_un c, va_up_ne _ _ (by omega)]; exact h.2.2 p hp
theorem pm_goes_5 {f0 : Nat → Nat} {M0 : Mm} {q : Nat} {T : Lay} (hS : SR G B en f0 q T) (hL : ML M0 q T) : ∀ (r n v : Nat) (M : Mm) (f : Nat → Nat), T 1 v ≤ r → r < n → v < 96 → RE q T v → RF M f → (∀ e, e < 262 → T 1 (ns G e) ≤ T 1 v → T 1 (nd G e) ≤ T 1 v → f e = f0 e) → (∀ e, e < 262 → f e ≤ cx G B en e) → M 9 = M0 9 → M 10 = M0 10 → ∃ M', F_X5_goes_5 n M (nI v) = some M' ∧ RF M' (ag 1 T r v f) ∧ ∀ j, j ≠ 6 → j ≠ 7 → j ≠ 8 → M' j = M j
  | r, 0, v, M, f, _, h, _, _, _, _, _, _, _ => by omega
  | 0, n + 1, v, M, f, hr, h, h9, hv, hF, he, hc, m9, m10 => by
    obtain ⟨-, -, -, g4⟩ := SR_w hS h9 hv
    omega
  | r + 1, n + 1, v, M, f, hr, h, h9, hv, hF, he, hc, m9, m10 => by
    obtain ⟨g6, g7, g5, g4⟩ := SR_w hS h9 hv
    have e2 : ag 1 T (r + 1) v f = ag 1 T r (T 3 v) (sa 1 (T 2 v) f) := if_neg (by omega)
    rw [e2]
    have p1 := sp_rs g7
    obtain ⟨k1, k2, k3⟩ := aug_st hS hv h9 p1 he hc
    rcases hL.2.2.2 v h9 with ⟨-, d⟩ | ⟨-, d1, c, d2, d3⟩
    · exact absurd hv d
    have n10 : M 10 v = nI c := by rw [m10]; exact d2
    have n9 : M 9 v = nI (if T 3 v = 120 then v else T 3 v) := by rw [m9]; exact d1
    have go : ∀ M1 : Mm, T 3 v < 96 → RF M1 (sa 1 (T 2 v) f) → (∀ j, j ≠ 6 → j ≠ 7 → j ≠ 8 → M1 j = M j) → ∃ M', F_X5_goes_5 n M1 (nI (T 3 v)) = some M' ∧ RF M' (ag 1 T r (T 3 v) (sa 1 (T 2 v) f)) ∧ ∀ j, j ≠ 6 → j ≠ 7 → j ≠ 8 → M' j = M j := by
      intro M1 hx hF1 hj
      obtain ⟨M', h1, h2, h3⟩ := pm_goes_5 hS hL r n (T 3 v) M1 (sa 1 (T 2 v) f) (by omega) (by omega) hx g6 hF1 k2 k3 (by rw [hj 9 (by decide) (by decide) (by decide)]; exact m9) (by rw [hj 10 (by decide) (by decide) (by decide)]; exact m10)
      exact ⟨M', h1, h2, fun j a b d => by rw [h3 j a b d, hj j a b d]⟩
    show ∃ M', F_X5_goesB_5 (F_X5_goes_5 n) M (nI v) = some M' ∧ _
    unfold F_X5_goesB_5
    rw [ck_nI h9 (by omega), nI_clamp (by omega), n10, n9, show (16 : Int32) = nI 16 from rfl]
    rcases d3 with ⟨rfl, x1, x2⟩ | ⟨rfl, x1, x2⟩ | ⟨rfl, x1, x2⟩ | ⟨k, x0, rfl, x1, x2⟩ | ⟨k, x0, rfl, x1, x2⟩
    · rw [if_pos (show nI 0 = (0 : Int32) from rfl), pk_div (by omega) (by omega) (by omega), ck_nI (by omega) (by omega), ck_nI (by omega) (by omega), sv_eq, nI_clamp (by omega), hF.2.2 _ (by omega), show (1 : Int32) = nI 1 from rfl, nI_add, x1, ag_120]
      have e3 : sa 1 (T 2 v) f = va_up f (256 + v / 16) (f (256 + v / 16) + 1) := by
        unfold sa
        rw [x2, show 2 * (256 + v / 16) / 2 = 256 + v / 16 by omega, if_pos (by omega)]
      rw [e3]
      exact ⟨_, rfl, RF_o hF (by omega) _, fun j a b d => va_up_ne _ _ a⟩
    · have hn : ¬ T 3 v = 120 := by omega
      rw [if_neg (show ¬ nI 1 = (0 : Int32) by decide), ck_nI h9 (by omega), if_pos (show nI 1 = (1 : Int32) from rfl), if_neg hn, ck_nI x1 (by omega), ck_nI x1 (by omega), sv_eq, nI_clamp (by omega), hF.2.1 _ x1, show (1 : Int32) = nI 1 from rfl, nI_add, ck_nI h9 (by omega), ck_nI h9 (by omega)]
      refine go _ x1 ?_ (fun j a b d => va_up_ne _ _ b)
      have e3 : sa 1 (T 2 v) f = va_up f (160 + T 3 v) (f (160 + T 3 v) + 1) := by
        unfold sa
        rw [x2, show 2 * (160 + T 3 v) / 2 = 160 + T 3 v by omega, if_pos (by omega)]
      rw [e3]
      exact RF_w hF x1 _
    · have hn : ¬ T 3 v = 120 := by omega
      have hfe : 1 ≤ f (160 + v) := by
        unfold rs at p1
        rw [← k1, x2, if_neg (by omega), show (2 * (160 + v) + 1) / 2 = 160 + v by omega] at p1
        exact p1
      rw [if_neg (show ¬ nI 2 = (0 : Int32) by decide), ck_nI h9 (by omega), if_neg (show ¬ nI 2 = (1 : Int32) by decide), if_pos (show nI 2 = (2 : Int32) from rfl), if_neg hn, ck_nI h9 (by omega), ck_nI h9 (by omega), ck_nI h9 (by omega), ck_nI h9 (by omega), ck_nI h9 (by omega), sv_eq, hF.2.1 _ h9, show (1 : Int32) = nI 1 from rfl, pk_sub hfe]
      refine go _ x1 ?_ (fun j a b d => va_up_ne _ _ b)
      have e3 : sa 1 (T 2 v) f = va_up f (160 + v) (f (160 + v) - 1) := by
        unfold sa
        rw [x2, show (2 * (160 + v) + 1) / 2 = 160 + v by omega, if_neg (by omega)]
      rw [e3]
      exact RF_w hF h9 _
    · have hn : ¬ T 3 v = 120 := by omega
      have c0 : ¬ nI (16 + k) = (0 : Int32) := fun z => by have := (nI_eq (a := 16 + k) (b := 0) (by omega) (by omega)).mp z; omega
      have c1 : ¬ nI (16 + k) = (1 : Int32) := fun z => by have := (nI_eq (a := 16 + k) (b := 1) (by omega) (by omega)).mp z; omega
      have c2 : ¬ nI (16 + k) = (2 : Int32) := fun z => by have := (nI_eq (a := 16 + k) (b := 2) (by omega) (by omega)).mp z; omega
      have c3 : ¬ (32 : Int32) ≤ nI (16 + k) := nI_ge (b := 32) (by omega) (by omega)
      rw [if_neg c0, if_neg c1, if_neg c2, if_neg c3, if_neg hn, ck_nI h9 (by omega), ck_nI h9 (by omega), ck_nI h9 (by omega), ck_nI h9 (by omega), ck_nI h9 (by omega), pk_rem (by omega) (by omega) (by omega), pk_rem (by omega) (by omega) (by omega), show (16 + k) % 16 = k by omega, pk_mul, nI_add, ck_nI (by omega) (by omega), ck_nI (by omega) (by omega), sv_eq, nI_clamp (by omega), hF.1 _ (by omega), show (1 : Int32) = nI 1 from rfl, nI_add]
      refine go _ x1 ?_ (fun j a b d => va_up_ne _ _ d)
      have e3 : sa 1 (T 2 v) f = va_up f (16 * k + T 3 v % 16) (f (16 * k + T 3 v % 16) + 1) := by
        unfold sa
        rw [x2, show 2 * (16 * k + T 3 v % 16) / 2 = 16 * k + T 3 v % 16 by omega, if_pos (by omega)]
      rw [e3]
      exact RF_p hF (by omega) _
    · have hn : ¬ T 3 v = 120 := by omega
      have hfe : 1 ≤ f (16 * k + v % 16) := by
        unfold rs at p1
        rw [← k1, x2, if_neg (by omega), show (2 * (16 * k + v % 16) + 1) / 2 = 16 * k + v % 16 by omega] at p1
        exact p1
      have c0 : ¬ nI (32 + k) = (0 : Int32) := fun z => by have := (nI_eq (a := 32 + k) (b := 0) (by omega) (by omega)).mp z; omega
      have c1 : ¬ nI (32 + k) = (1 : Int32) := fun z => by have := (nI_eq (a := 32 + k) (b := 1) (by omega) (by omega)).mp z; omega
      have c2 : ¬ nI (32 + k) = (2 : Int32) := fun z => by have := (nI_eq (a := 32 + k) (b := 2) (by omega) (by omega)).mp z; omega
      have c3 : (32 : Int32) ≤ nI (32 + k) := nI_le (a := 32) (by omega) (by omega)
      rw [if_neg c0, if_neg c1, if_neg c2, if_pos c3, if_neg hn, ck_nI h9 (by omega), ck_nI h9 (by omega), ck_nI h9 (by omega), ck_nI h9 (by omega), ck_nI h9 (by omega), pk_rem (by omega) (by omega) (by omega), pk_rem (by omega) (by omega) (by omega), show (32 + k) % 16 = k by omega, pk_mul, nI_add, ck_nI (by omega) (by omega), ck_nI (by omega) (by omega), sv_eq, nI_clamp (by omega), hF.1 _ (by omega), show (1 : Int32) = nI 1 from rfl, pk_sub hfe]
      refine go _ x1 ?_ (fun j a b d => va_up_ne _ _ d)
      have e3 : sa 1 (T 2 v) f = va_up f (16 * k + v % 16) (f (16 * k + v % 16) - 1) := by
        unfold sa
        rw [x2, show (2 * (16 * k + v % 16) + 1) / 2 = 16 * k + v % 16 by omega, if_neg (by omega)]
      rw [e3]
      exact RF_p hF (by omega) _
/-- what the calls around need of a whole run -/
def CS (M M' : Mm) : Prop := (∀ j, j < 6 → M' j = M j) ∧ ∀ j, j ≠ 5 → j ≠ 6 → M' 12 j = M 12 j
theorem CS.refl (M : Mm) : CS M M := ⟨fun _ _ => rfl, fun _ _ _ => rfl⟩
theorem CS.trans {M M1 M2 : Mm} (h : CS M M1) (h' : CS M1 M2) : CS M M2 := ⟨fun j a => by rw [h'.1 j a, h.1 j a], fun j a b => by rw [h'.2 j a b, h.2 j a b]⟩
theorem RS.cs {M M1 : Mm} (h : RS M M1) : CS M M1 := ⟨fun j a => h.1 j (by omega) (by omega) (by omega) (by omega), fun j _ a => h.2 j a⟩
theorem PA_1 {f : Nat → Nat} {q : Nat} {T : Lay} (h : SR G B en f q T) : ∀ (r v : Nat), RE q T v → PA G B en f 1 T r v
  | 0, _, _ => trivial
  | r + 1, v, hv => by
    rcases RE_lt h hv with e | e
    · exact Or.inl e
    · obtain ⟨g6, g7, -⟩ := SR_w h e hv
      exact Or.inr ⟨sp_rs g7, PA_1 h r _ g6⟩
/-- where the last tick's exit isn't reached, no exit is -/
theorem no_exit {f : Nat → Nat} {q : Nat} {T : Lay} (hB : NB G B) (hen : en ≤ 15) (hR : SR G B en f q T) (h6 : ∀ t, t < 16 → f (160 + t) < B (160 + t)) (hC : ∀ i, i < q → CLv G B en f q T (T 0 i)) (hn : ¬ RE q T en) : ∀ i, i < q → 16 ≤ T 0 i := by
  intro i hi
  by_cases c : 16 ≤ T 0 i
  · exact c
  · exfalso
    have key : ∀ r t, t + r = en → RE q T t → RE q T en := by
      intro r
      induction r with
      | zero => intro t ht h; rw [← ht]; exact h
      | succ r ih =>
        intro t ht h
        refine ih (t + 1) (by omega) ?_
        rcases h with h | ⟨j, hj, h⟩
        · omega
        · have := sp_mkw (G := G) (B := B) (en := en) (f := f) (u := t) (by omega) (by omega) hen (by have := hB.1; omega) (h6 t (by omega))
          rw [← h] at this
          rw [← h]
          exact hC j hj _ _ this
    have g2 := (hR.2 i hi).2.1
    exact hn (key (en - T 0 i) (T 0 i) (by omega) (Or.inr ⟨i, hi, rfl⟩))
theorem pm_comes_71 (hB : NB G B) (hen : en ≤ 15) : ∀ (r n V : Nat) (M : Mm) (f : Nat → Nat), 1621 ≤ V + r → r < n → Fe G B en f → dv (ns G) (nd G) (fv f) 120 = ((V : Nat) : Int) → MC M G B en → RF M f → (∀ e, f e ≤ 96 * V) → ∃ V' M' f' q T, F_X5_comes_71 n M (nI V) = some (nI V', M') ∧ V' ≤ 1621 ∧ Fe G B en f' ∧ dv (ns G) (nd G) (fv f') 120 = ((V' : Nat) : Int) ∧ FIN G B en f' q T ∧ ML M' q T ∧ CS M M' ∧ M' 12 5 = nI en := by
  intro r n
  induction n generalizing r with
  | zero => intro V M f _ h; omega
  | succ n ih =>
    intro V M f hV h hE hv hC hF hb
    have hmax := val_max hB hen hE
    show ∃ V' M' f' q T, F_X5_comesB_71 (F_X5_comes_71 n) M (nI V) = _ ∧ _
    unfold F_X5_comesB_71
    obtain ⟨M1, q, T, h1, h2, h3, h4, h5⟩ := pm_finds hB hen hE.1 hC hF
    rcases h1 with ⟨h1, k1⟩ | ⟨h1, k1⟩
    · rw [h1, b2_some, if_pos rfl]
      refine ⟨V, M1, f, q, T, rfl, by omega, hE, hv, ⟨h2.1, no_exit hB hen h2.1 (fun t ht => ?_) h5 k1, h4, h5⟩, h2.2.1, h3.cs, h2.2.2.1.2.2.2.2.2.2.2.1⟩
      have := hb (160 + t)
      rw [hC.2.2.2.2.2.2.2.2 t ht]
      omega
    · have hq9 : q ≤ 96 := by rw [← h2.2.1.2.1]; exact cnt_le _ 96
      have hrk := SR_rank h2.1 k1
      obtain ⟨M2, g1, g2, g3⟩ := pm_goes_5 h2.1 h2.2.1 96 FU en M1 f (by omega) (by rw [FU_eq]; omega) (by omega) k1 h2.2.2.2 (fun _ _ _ _ => rfl) hE.1 rfl rfl
      obtain ⟨f1, f2, f3⟩ := aug_fe hE h2.1 k1 (by omega) (r := 96) (by omega) (PA_1 h2.1 96 en k1)
      unfold F_X5_goes
      rw [h1, b2_some, if_neg (by decide), h2.2.2.1.2.2.2.2.2.2.2.1, g1, b1_some, ← nI_succ]
      have hmax2 := val_max hB hen f1
      have hCS : CS M1 M2 := ⟨fun j a => g3 j (by omega) (by omega) (by omega), fun j _ _ => by rw [g3 12 (by decide) (by decide) (by decide)]⟩
      have hSC : SC M1 M2 := ⟨g3 0 (by decide) (by decide) (by decide), fun j _ => by rw [g3 12 (by decide) (by decide) (by decide)]⟩
      cases r with
      | zero => omega
      | succ r =>
        obtain ⟨V', M', f', q', T', j1, j2, j3, j4, j5, j6, j7, j8⟩ := ih r (V + 1) M2 (ag 1 T 96 en f) (by omega) (by omega) f1 (by rw [f3, hv]; omega) (MC_sc h2.2.2.1 hSC) g2 (fun e => by have := f2 e; have := hb e; omega)
        exact ⟨V', M', f', q', T', j1, j2, j3, j4, j5, j6, (h3.cs.trans hCS).trans j7, j8⟩
theorem pm_comes_49 : ∀ (r n k : Nat) (M : Mm), k + r = 160 → r < n → (∀ j, j < k → M 8 j = nI 0) → ∃ g : Nat → Int32, F_X5_comes_49 n M (nI k) = F_X5_comes_71 FU (va_up M 8 g) 0 ∧ ∀ j, j < 160 → g j = nI 0
  | r, 0, k, M, _, h, _ => by omega
  | 0, n + 1, k, M, hk, h, hM => by
    have hk : k = 160 := by omega
    subst hk
    refine ⟨M 8, ?_, hM⟩
    have e : va_up M 8 (M 8) = M := by funext q; unfold va_up; by_cases h : q = 8; rw [if_pos h, h]; rw [if_neg h]
    rw [e]
    show F_X5_comesB_49 (F_X5_comes_49 n) M (nI 160) = _
    unfold F_X5_comesB_49
    rw [if_pos (by decide)]
  | r + 1, n + 1, k, M, hk, h, hM => by
    have e1 : ¬ (160 : Int32) ≤ nI k := nI_ge (a := k) (b := 160) (by omega) (by omega)
    show ∃ g, F_X5_comesB_49 (F_X5_comes_49 n) M (nI k) = _ ∧ _
    unfold F_X5_comesB_49
    rw [if_neg e1, ck_nI (by omega) (by omega), sv_eq, nI_clamp (by omega), ← nI_succ]
    obtain ⟨g, h1, h2⟩ := pm_comes_49 r n (k + 1) (va_up M 8 (upd (M 8) k 0)) (by omega) (by omega) (fun j hj => by
      rw [va_up_self]
      by_cases h : j = k
      · rw [h]; exact pk_us
      · rw [pk_un h]; exact hM j (by omega))
    exact ⟨g, by rw [h1, bx_uu], h2⟩
theorem pm_comes_28 : ∀ (r n k : Nat) (M : Mm), k + r = 96 → r < n → (∀ j, j < k → M 7 j = nI 0) → ∃ g : Nat → Int32, F_X5_comes_28 n M (nI k) = F_X5_comes_49 FU (va_up M 7 g) 0 ∧ ∀ j, j < 96 → g j = nI 0
  | r, 0, k, M, _, h, _ => by omega
  | 0, n + 1, k, M, hk, h, hM => by
    have hk : k = 96 := by omega
    subst hk
    refine ⟨M 7, ?_, hM⟩
    have e : va_up M 7 (M 7) = M := by funext q; unfold va_up; by_cases h : q = 7; rw [if_pos h, h]; rw [if_neg h]
    rw [e]
    show F_X5_comesB_28 (F_X5_comes_28 n) M (nI 96) = _
    unfold F_X5_comesB_28
    rw [if_pos (by decide)]
  | r + 1, n + 1, k, M, hk, h, hM => by
    have e1 : ¬ (96 : Int32) ≤ nI k := nI_ge (a := k) (b := 96) (by omega) (by omega)
    show ∃ g, F_X5_comesB_28 (F_X5_comes_28 n) M (nI k) = _ ∧ _
    unfold F_X5_comesB_28
    rw [if_neg e1, ck_nI (by omega) (by omega), sv_eq, nI_clamp (by omega), ← nI_succ]
    obtain ⟨g, h1, h2⟩ := pm_comes_28 r n (k + 1) (va_up M 7 (upd (M 7) k 0)) (by omega) (by omega) (fun j hj => by
      rw [va_up_self]
      by_cases h : j = k
      · rw [h]; exact pk_us
      · rw [pk_un h]; exact hM j (by omega))
    exact ⟨g, by rw [h1, bx_uu], h2⟩
theorem pm_comes_7 : ∀ (r n k : Nat) (M : Mm), k + r = 6 → r < n → (∀ j, j < k → M 6 j = nI 0) → ∃ g : Nat → Int32, F_X5_comes_7 n M (nI k) = F_X5_comes_28 FU (va_up M 6 g) 0 ∧ ∀ j, j < 6 → g j = nI 0
  | r, 0, k, M, _, h, _ => by omega
  | 0, n + 1, k, M, hk, h, hM => by
    have hk : k = 6 := by omega
    subst hk
    refine ⟨M 6, ?_, hM⟩
    have e : va_up M 6 (M 6) = M := by funext q; unfold va_up; by_cases h : q = 6; rw [if_pos h, h]; rw [if_neg h]
    rw [e]
    show F_X5_comesB_7 (F_X5_comes_7 n) M (nI 6) = _
    unfold F_X5_comesB_7
    rw [if_pos (by decide)]
  | r + 1, n + 1, k, M, hk, h, hM => by
    have e1 : ¬ (6 : Int32) ≤ nI k := nI_ge (a := k) (b := 6) (by omega) (by omega)
    show ∃ g, F_X5_comesB_7 (F_X5_comes_7 n) M (nI k) = _ ∧ _
    unfold F_X5_comesB_7
    rw [if_neg e1, ck_nI (by omega) (by omega), sv_eq, nI_clamp (by omega), ← nI_succ]
    obtain ⟨g, h1, h2⟩ := pm_comes_7 r n (k + 1) (va_up M 6 (upd (M 6) k 0)) (by omega) (by omega) (fun j hj => by
      rw [va_up_self]
      by_cases h : j = k
      · rw [h]; exact pk_us
      · rw [pk_un h]; exact hM j (by omega))
    exact ⟨g, by rw [h1, bx_uu], h2⟩
theorem f0_fe (G : Lay) (B : Nat → Nat) (en : Nat) : Fe G B en (fun _ => 0) ∧ dv (ns G) (nd G) (fv (fun _ => 0)) 120 = ((0 : Nat) : Int) := by
  have hz : ∀ v, dv (ns G) (nd G) (fv (fun _ => 0)) v = 0 := by
    intro v
    unfold dv fv
    rw [sm_congr (h := fun _ => 0) (fun e _ => by simp), sm_0]
  exact ⟨⟨fun e _ => Nat.zero_le _, fun v _ _ => hz v⟩, hz 120⟩
/-- the reference's greatest stream by a tick -/
theorem pm_comes (hB : NB G B) (hen : en ≤ 15) {M : Mm} (hC : MC (va_up M 12 (upd (M 12) 5 (nI en))) G B en) : ∃ V M' f q T, F_X5_comes M (nI en) = some (nI V, M') ∧ V ≤ 1621 ∧ Fe G B en f ∧ dv (ns G) (nd G) (fv f) 120 = ((V : Nat) : Int) ∧ FIN G B en f q T ∧ ML M' q T ∧ CS M M' ∧ M' 12 5 = nI en := by
  unfold F_X5_comes
  obtain ⟨g6, a1, a2⟩ := pm_comes_7 6 FU 0 (va_up M 12 (upd (M 12) 5 (nI en))) (by omega) (by rw [FU_eq]; omega) (fun j hj => by omega)
  obtain ⟨g7, b1', b2'⟩ := pm_comes_28 96 FU 0 (va_up (va_up M 12 (upd (M 12) 5 (nI en))) 6 g6) (by omega) (by rw [FU_eq]; omega) (fun j hj => by omega)
  obtain ⟨g8, c1, c2⟩ := pm_comes_49 160 FU 0 (va_up (va_up (va_up M 12 (upd (M 12) 5 (nI en))) 6 g6) 7 g7) (by omega) (by rw [FU_eq]; omega) (fun j hj => by omega)
  have e0 : (0 : Int32) = nI 0 := rfl
  rw [sv_eq, e0, a1, e0, b1', e0, c1]
  have hCS : CS M (va_up (va_up (va_up (va_up M 12 (upd (M 12) 5 (nI en))) 6 g6) 7 g7) 8 g8) := by
    refine ⟨fun j hj => ?_, fun j h5 h6 => ?_⟩
    · rw [va_up_ne _ _ (by omega), va_up_ne _ _ (by omega), va_up_ne _ _ (by omega), va_up_ne _ _ (by omega)]
    · rw [va_up_ne _ _ (by omega), va_up_ne _ _ (by omega), va_up_ne _ _ (by omega), va_up_self, pk_un h5]
  have hSC : SC (va_up M 12 (upd (M 12) 5 (nI en))) (va_up (va_up (va_up (va_up M 12 (upd (M 12) 5 (nI en))) 6 g6) 7 g7) 8 g8) := by
    refine ⟨?_, fun j _ => ?_⟩
    · rw [va_up_ne _ _ (by omega), va_up_ne _ _ (by omega), va_up_ne _ _ (by omega)]
    · rw [va_up_ne _ _ (by omega), va_up_ne _ _ (by omega), va_up_ne _ _ (by omega)]
  have hRF : RF (va_up (va_up (va_up (va_up M 12 (upd (M 12) 5 (nI en))) 6 g6) 7 g7) 8 g8) (fun _ => 0) := by
    refine ⟨fun e he => ?_, fun e he => ?_, fun p hp => ?_⟩
    · rw [va_up_self]; exact c2 e he
    · rw [va_up_ne _ _ (by omega), va_up_self]; exact b2' e he
    · rw [va_up_ne _ _ (by omega), va_up_ne _ _ (by omega), va_up_self]; exact a2 p hp
  obtain ⟨k1, k2⟩ := f0_fe G B en
  obtain ⟨V', M', f', q', T', j1, j2, j3, j4, j5, j6, j7, j8⟩ := pm_comes_71 hB hen 1621 FU 0 _ _ (by omega) (by rw [FU_eq]; omega) k1 k2 (MC_sc hC hSC) hRF (fun _ => by omega)
  exact ⟨V', M', f', q', T', j1, j2, j3, j4, j5, j6, hCS.trans j7, j8⟩
end REF3
