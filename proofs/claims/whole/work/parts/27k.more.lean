/-! PURE PART: the class: carryToArrival, moreBy, mostBy. -/
section CLS3
variable {N : Mm} {G : Lay} {B : Nat → Nat} {en : Nat}
theorem cx_B {f : Nat → Nat} {e : Nat} (h : f e < cx G B en e) : cx G B en e = B e := by
  unfold cx at h ⊢
  split
  · rename_i c; rw [if_pos c] at h; split
    · rfl
    · rename_i d; rw [if_neg d] at h; omega
  · rename_i c; rw [if_neg c] at h
    split
    · rename_i c2; rw [if_pos c2] at h; split
      · rfl
      · rename_i d; rw [if_neg d] at h; omega
    · rename_i c2; rw [if_neg c2] at h; split
      · rfl
      · rename_i d; rw [if_neg d] at h; omega
theorem RE_lt {f : Nat → Nat} {q : Nat} {T : Lay} (h : SR G B en f q T) {v : Nat} (hv : RE q T v) : v = 120 ∨ v < 96 := by
  rcases hv with hv | ⟨i, hi, hv⟩
  · exact Or.inl hv
  · have := (h.2 i hi).1
    rw [hv] at this
    exact Or.inr this
theorem LF_rs (hB : NB G B) {f : Nat → Nat} (hf : ∀ e, e < 262 → f e ≤ cx G B en e) {s0 : Nat → Int32} (hF : LF s0 G B f) {x w v : Nat} (hl : live G (w / 2)) (h : sp G B en f x w v) : s0 w = nI (rs G B en f w) ∧ rs G B en f w ≤ 1000000 := by
  have hb := hB.2.2.2.2.1 (w / 2)
  have hf1 := hf _ h.1
  have hf2 := cx_le (G := G) (B := B) (en := en) (e := w / 2)
  unfold rs
  rcases h with ⟨h0, ⟨h1, h2, h3, h4⟩ | ⟨h1, h2, h3, h4⟩⟩
  · rw [if_pos h1, cx_B h4]
    have e : w = 2 * (w / 2) := by omega
    have := (hF _ hl).1
    rw [← e] at this
    exact ⟨this, by omega⟩
  · rw [if_neg (by omega)]
    have e : w = 2 * (w / 2) + 1 := by omega
    have := (hF _ hl).2
    rw [← e] at this
    exact ⟨this, by omega⟩
theorem aug_st {f0 f : Nat → Nat} {q a : Nat} {T : Lay} (h : SR G B en f0 q T) {v : Nat} (hv : RE q T v) (h9 : v < 96) (p1 : a ≤ rs G B en f0 (T 2 v)) (he : ∀ e, e < 262 → T 1 (ns G e) ≤ T 1 v → T 1 (nd G e) ≤ T 1 v → f e = f0 e) (hc : ∀ e, e < 262 → f e ≤ cx G B en e) : f (T 2 v / 2) = f0 (T 2 v / 2) ∧ (∀ e, e < 262 → T 1 (ns G e) ≤ T 1 (T 3 v) → T 1 (nd G e) ≤ T 1 (T 3 v) → sa a (T 2 v) f e = f0 e) ∧ ∀ e, e < 262 → sa a (T 2 v) f e ≤ cx G B en e := by
  obtain ⟨g6, g7, g5, g4⟩ := SR_w h h9 hv
  have hw : T 2 v / 2 < 262 := g7.1
  have hend : T 1 (ns G (T 2 v / 2)) ≤ T 1 v ∧ T 1 (nd G (T 2 v / 2)) ≤ T 1 v := by
    rcases g7 with ⟨-, ⟨-, s2, s3, -⟩ | ⟨-, s2, s3, -⟩⟩
    · rw [s2, s3]; omega
    · rw [s2, s3]; omega
  have hfw : f (T 2 v / 2) = f0 (T 2 v / 2) := he _ hw hend.1 hend.2
  have htop : T 1 (ns G (T 2 v / 2)) = T 1 v ∨ T 1 (nd G (T 2 v / 2)) = T 1 v := by
    rcases g7 with ⟨-, ⟨-, s2, s3, -⟩ | ⟨-, s2, s3, -⟩⟩
    · exact Or.inr (by rw [s3])
    · exact Or.inl (by rw [s3])
  refine ⟨hfw, fun e' he' q1 q2 => ?_, fun e' he' => ?_⟩
  · have hne : e' ≠ T 2 v / 2 := by
      intro z
      rw [z] at q1 q2
      rcases htop with t | t <;> omega
    unfold sa
    rw [va_up_ne _ _ hne]
    exact he e' he' (by omega) (by omega)
  · unfold sa
    by_cases z : e' = T 2 v / 2
    · rw [z, va_up_self, hfw]
      unfold rs at p1
      have hc' := hc _ hw
      rw [hfw] at hc'
      by_cases d : T 2 v % 2 = 0
      · rw [if_pos d] at p1 ⊢
        have : f0 (T 2 v / 2) < cx G B en (T 2 v / 2) := by
          rcases g7 with ⟨-, ⟨-, -, -, s4⟩ | ⟨s1, -, -, -⟩⟩
          · exact s4
          · omega
        omega
      · rw [if_neg d]; omega
    · rw [va_up_ne _ _ z]; exact hc e' he'
theorem pc_carry_10 (hB : NB G B) {f : Nat → Nat} (hf : ∀ e, e < 262 → f e ≤ cx G B en e) {S : Mm} {q : Nat} {T : Lay} (hS : SS G B en f S q T) (hF : LF (S 0) G B f) : ∀ (r n v a s : Nat), T 1 v ≤ r → s + r = 96 → r < n → RE q T v → 1 ≤ a → a ≤ 1000000 → ∃ a', 1 ≤ a' ∧ a' ≤ a ∧ PA G B en f a' T r v ∧ F_X3_carryToArrival_10 n S N (nI a) (if v = 120 then -1 else nI v) (nI s) = F_X3_carryToArrival_57 FU S N (nI a') (S 4 1) (nI 0)
  | r, 0, v, a, s, _, _, h, _, _, _ => by omega
  | 0, n + 1, v, a, s, hr, hs, h, hv, ha, ha2 => by
    refine ⟨a, ha, Nat.le_refl _, trivial, ?_⟩
    show F_X3_carryToArrivalB_10 (F_X3_carryToArrival_10 n) S N (nI a) _ (nI s) = _
    unfold F_X3_carryToArrivalB_10
    have e : s = 96 := by omega
    rw [e, if_pos (by decide)]
    rfl
  | r + 1, n + 1, v, a, s, hr, hs, h, hv, ha, ha2 => by
    show ∃ a', _ ∧ _ ∧ _ ∧ F_X3_carryToArrivalB_10 (F_X3_carryToArrival_10 n) S N (nI a) _ (nI s) = _
    unfold F_X3_carryToArrivalB_10
    rw [if_neg (show ¬ (96 : Int32) ≤ nI s from nI_ge (b := 96) (by omega) (by omega))]
    by_cases c : v = 120
    · rw [if_pos c, if_pos rfl]
      exact ⟨a, ha, Nat.le_refl _, Or.inl c, rfl⟩
    · have h9 : v < 96 := (RE_lt hS.1 hv).resolve_left c
      obtain ⟨g6, g7, g5, g4⟩ := SR_w hS.1 h9 hv
      rcases hS.2.1.2.2.2 v h9 with ⟨-, d⟩ | ⟨-, d1, d2, d3⟩
      · exact absurd hv d
      have hw : T 2 v < 524 := sp_w g7
      obtain ⟨r1, r2⟩ := LF_rs hB hf hF d3 g7
      have r3 := sp_rs g7
      rw [if_neg c, if_neg (nI_n1 (by omega)), ck_nI h9 (by omega), nI_clamp (by omega), d1, ck_nI hw (by omega), ck_nI h9 (by omega), nI_clamp (by omega), r1, d2, ← nI_succ]
      have hmin : (if nI (rs G B en f (T 2 v)) < nI a then nI (rs G B en f (T 2 v)) else nI a) = nI (min (rs G B en f (T 2 v)) a) := by
        by_cases m : rs G B en f (T 2 v) < a
        · rw [if_pos (nI_lt m (by omega)), Nat.min_eq_left (by omega)]
        · rw [if_neg (nI_nlt (by omega) (by omega)), Nat.min_eq_right (by omega)]
      rw [hmin]
      obtain ⟨a', i1, i2, i3, i4⟩ := pc_carry_10 hB hf hS hF r n (T 3 v) (min (rs G B en f (T 2 v)) a) (s + 1) (by omega) (by omega) (by omega) g6 (by omega) (by omega)
      exact ⟨a', i1, by omega, Or.inr ⟨by omega, i3⟩, i4⟩
theorem pc_carry_57 (hB : NB G B) {f0 : Nat → Nat} {S0 : Mm} {q : Nat} {T : Lay} (hS : SS G B en f0 S0 q T) {a : Nat} : ∀ (r n v s : Nat) (S : Mm) (f : Nat → Nat), T 1 v ≤ r → s + r = 96 → r < n → RE q T v → PA G B en f0 a T r v → LF (S 0) G B f → (∀ j, j ≠ 0 → S j = S0 j) → (∀ e, e < 262 → T 1 (ns G e) ≤ T 1 v → T 1 (nd G e) ≤ T 1 v → f e = f0 e) → (∀ e, e < 262 → f e ≤ cx G B en e) → ∃ S', F_X3_carryToArrival_57 n S N (nI a) (if v = 120 then -1 else nI v) (nI s) = some (nI a, S') ∧ LF (S' 0) G B (ag a T r v f) ∧ ∀ j, j ≠ 0 → S' j = S0 j
  | r, 0, v, s, S, f, _, _, h, _, _, _, _, _, _ => by omega
  | 0, n + 1, v, s, S, f, hr, hs, h, hv, hp, hF, hj, he, hc => by
    refine ⟨S, ?_, hF, hj⟩
    show F_X3_carryToArrivalB_57 (F_X3_carryToArrival_57 n) S N (nI a) _ (nI s) = _
    unfold F_X3_carryToArrivalB_57
    have e : s = 96 := by omega
    rw [e, if_pos (by decide)]
  | r + 1, n + 1, v, s, S, f, hr, hs, h, hv, hp, hF, hj, he, hc => by
    show ∃ S', F_X3_carryToArrivalB_57 (F_X3_carryToArrival_57 n) S N (nI a) _ (nI s) = _ ∧ _
    unfold F_X3_carryToArrivalB_57
    rw [if_neg (show ¬ (96 : Int32) ≤ nI s from nI_ge (b := 96) (by omega) (by omega))]
    by_cases c : v = 120
    · have e2 : ag a T (r + 1) v f = f := if_pos c
      rw [if_pos c, if_pos rfl, e2]
      exact ⟨S, rfl, hF, hj⟩
    · have h9 : v < 96 := (RE_lt hS.1 hv).resolve_left c
      have e2 : ag a T (r + 1) v f = ag a T r (T 3 v) (sa a (T 2 v) f) := if_neg c
      obtain ⟨g6, g7, g5, g4⟩ := SR_w hS.1 h9 hv
      rcases hp with hp | ⟨p1, p2⟩
      · exact absurd hp c
      rcases hS.2.1.2.2.2 v h9 with ⟨-, d⟩ | ⟨-, d1, d2, d3⟩
      · exact absurd hv d
      obtain ⟨k1, k2, k3⟩ := aug_st hS.1 hv h9 p1 he hc
      have hw : T 2 v < 524 := sp_w g7
      have hS1 : S 1 v = nI (T 2 v) := by rw [hj 1 (by decide)]; exact d1
      have hS2 : S 2 v = (if T 3 v = 120 then -1 else nI (T 3 v)) := by rw [hj 2 (by decide)]; exact d2
      have hfe := hc _ g7.1
      have hfb := cx_le (G := G) (B := B) (en := en) (e := T 2 v / 2)
      have hbb := hB.2.2.2.2.1 (T 2 v / 2)
      have hLF := hF _ d3
      have key : ∃ w', nI (T 2 v) ^^^ (1 : Int32) = nI w' ∧ w' < 524 ∧ LF (upd (upd (S 0) (T 2 v) (S 0 (T 2 v) - nI a)) w' (upd (S 0) (T 2 v) (S 0 (T 2 v) - nI a) w' + nI a)) G B (sa a (T 2 v) f) := by
        unfold rs at p1
        rw [k1] at hfe
        rcases g7 with ⟨t0, ⟨t1, t2, t3, t4⟩ | ⟨t1, t2, t3, t4⟩⟩
        · rw [if_pos t1] at p1
          have ew : T 2 v = 2 * (T 2 v / 2) := by omega
          refine ⟨T 2 v + 1, by rw [xo _ hw, if_pos t1], by omega, fun e hle => ?_⟩
          by_cases ee : e = T 2 v / 2
          · rw [ee, ← ew, pk_un (by omega), pk_us, pk_us, pk_un (by omega)]
            rw [← ew] at hLF
            unfold sa
            rw [va_up_self, if_pos t1, hLF.1, hLF.2, nI_add, pk_sub (by omega), Nat.sub_sub]
            exact ⟨rfl, rfl⟩
          · unfold sa
            rw [pk_un (by omega), pk_un (by omega), pk_un (by omega), pk_un (by omega), va_up_ne _ _ ee]
            exact hF e hle
        · rw [if_neg (by omega)] at p1
          have ew : T 2 v = 2 * (T 2 v / 2) + 1 := by omega
          refine ⟨T 2 v - 1, by rw [xo _ hw, if_neg (by omega)], by omega, fun e hle => ?_⟩
          by_cases ee : e = T 2 v / 2
          · rw [ee, ← ew, show 2 * (T 2 v / 2) = T 2 v - 1 by omega, pk_us, pk_un (by omega), pk_un (by omega), pk_us]
            rw [← ew, show 2 * (T 2 v / 2) = T 2 v - 1 by omega] at hLF
            unfold sa
            rw [va_up_self, if_neg (by omega), hLF.1, hLF.2, nI_add, pk_sub (by omega), show B (T 2 v / 2) - f (T 2 v / 2) + a = B (T 2 v / 2) - (f (T 2 v / 2) - a) by omega]
            exact ⟨rfl, rfl⟩
          · unfold sa
            rw [pk_un (by omega), pk_un (by omega), pk_un (by omega), pk_un (by omega), va_up_ne _ _ ee]
            exact hF e hle
      obtain ⟨w', x1, x2, x3⟩ := key
      unfold F_X3_back
      rw [if_neg c, if_neg (nI_n1 (by omega)), ck_nI h9 (by omega), nI_clamp (by omega), hS1, ck_nI hw (by omega), ck_nI hw (by omega), sv_eq, b1_some, x1, ck_nI x2 (by omega), ck_nI x2 (by omega), sv_eq, ck_nI h9 (by omega), nI_clamp (by omega), nI_clamp (by omega), va_up_self, bx_uu, va_up_ne _ _ (show (2 : Nat) ≠ 0 by decide), hS2, ← nI_succ, e2]
      exact pc_carry_57 hB hS r n (T 3 v) (s + 1) _ _ (by omega) (by omega) (by omega) g6 p2 (by rw [va_up_self]; exact x3) (fun j h0 => by rw [va_up_ne _ _ h0]; exact hj j h0) k2 k3
/-- the exit's own way isn't gone -/
theorem ag_256 {f0 : Nat → Nat} {q a : Nat} {T : Lay} (hS : SR G B en f0 q T) (h0 : f0 256 = B 256) : ∀ (r v : Nat) (f : Nat → Nat), RE q T v → ag a T r v f 256 = f 256
  | 0, v, f, _ => rfl
  | r + 1, v, f, hv => by
    by_cases c : v = 120
    · have e2 : ag a T (r + 1) v f = f := if_pos c
      rw [e2]
    · have e2 : ag a T (r + 1) v f = ag a T r (T 3 v) (sa a (T 2 v) f) := if_neg c
      have h9 : v < 96 := (RE_lt hS hv).resolve_left c
      obtain ⟨g6, g7, g5, g4⟩ := SR_w hS h9 hv
      have hne : 256 ≠ T 2 v / 2 := by
        intro z
        rcases g7 with ⟨t0, ⟨t1, t2, t3, t4⟩ | ⟨t1, t2, t3, t4⟩⟩
        · rw [← z] at t4
          have := cx_le (G := G) (B := B) (en := en) (e := 256)
          omega
        · rw [← z] at t3
          have : ns G 256 = 120 := rfl
          omega
      rw [e2, ag_256 hS h0 r _ _ g6]
      unfold sa
      rw [va_up_ne _ _ hne]
theorem pc_moreBy_4 (hN : NC N G B) (hB : NB G B) (hen : en ≤ 15) : ∀ (r n V x s : Nat) (S : Mm) (f : Nat → Nat), 1621 ≤ V + r → r < n → s ≤ V → Fe G B en f → dv (ns G) (nd G) (fv f) 120 = ((V : Nat) : Int) → LF (S 0) G B f → f 256 = B 256 → ∃ V' S' f' q T, F_X3_moreBy_4 n S N (nI en) (nI x) (nI s) = some (nI (x + (V' - V)), S') ∧ V ≤ V' ∧ V' ≤ 1621 ∧ Fe G B en f' ∧ dv (ns G) (nd G) (fv f') 120 = ((V' : Nat) : Int) ∧ LF (S' 0) G B f' ∧ f' 256 = B 256 ∧ FIN G B en f' q T ∧ SL G S' q T := by
  intro r n
  induction n generalizing r with
  | zero => intro V x s S f _ h; omega
  | succ n ih =>
    intro V x s S f hV h hs hE hv hF h0
    have hmax := val_max hB hen hE
    have hV2 : V ≤ 1621 := by omega
    show ∃ V' S' f' q T, F_X3_moreByB_4 (F_X3_moreBy_4 n) S N (nI en) (nI x) (nI s) = _ ∧ _
    unfold F_X3_moreByB_4
    rw [if_neg (show ¬ (1000000 : Int32) ≤ nI s from nI_ge (b := 1000000) (by omega) (by omega))]
    obtain ⟨S1, q, T, a1, a2, a3, a4, a5⟩ := pc_search hN hB hen hE.1 h0 hF
    rw [a1, b1_some]
    rcases a2.2.2 with ⟨b1', b2'⟩ | ⟨a, b1', b2', b3'⟩
    · rw [if_pos b1']
      exact ⟨V, S1, f, q, T, by rw [Nat.sub_self, Nat.add_zero], Nat.le_refl _, hV2, hE, hv, by rw [a3]; exact hF, h0, ⟨a2.1, b2', a4, a5 b1'⟩, a2.2.1⟩
    · rw [if_neg (by rw [b2']; exact nI_n1 (by omega))]
      have hq9 : q ≤ 96 := by rw [← a2.2.1.2.1]; exact cnt_le _ 96
      have hrk := SR_rank a2.1 b3'
      unfold F_X3_carryToArrival
      have hF1 : LF (S1 0) G B f := by rw [a3]; exact hF
      have e120 : ∀ a : Nat, a < 16 → nI a = (if a = 120 then -1 else nI a) := fun a h => by rw [if_neg (by omega)]
      obtain ⟨am, c1, c2, c3, c4⟩ := pc_carry_10 (N := N) hB hE.1 a2 hF1 96 FU a 1000000 0 (by omega) (by omega) (by rw [FU_eq]; omega) b3' (by omega) (by omega)
      obtain ⟨S2, d1, d2, d3⟩ := pc_carry_57 (N := N) hB a2 (a := am) 96 FU a 0 S1 f (by omega) (by omega) (by rw [FU_eq]; omega) b3' c3 hF1 (fun _ _ => rfl) (fun _ _ _ _ => rfl) hE.1
      obtain ⟨f1, f2, f3⟩ := aug_fe hE a2.1 b3' b1' (by omega) c3
      rw [← e120 a b1'] at c4 d1
      rw [b2', show (1000000 : Int32) = nI 1000000 from rfl, show (0 : Int32) = nI 0 from rfl, c4, b2', d1, b2_some, nI_add, ← nI_succ]
      have hmax2 := val_max hB hen f1
      cases r with
      | zero => omega
      | succ r =>
        obtain ⟨V', S', f', q', T', g1, g2, g3, g4, g5, g6, g7, g8, g9⟩ := ih r (V + am) (x + am) (s + 1) S2 (ag am T 96 a f) (by omega) (by omega) (by omega) f1 (by rw [f3, hv]; omega) d2 (by rw [ag_256 a2.1 h0 96 a f b3']; exact h0)
        exact ⟨V', S', f', q', T', by rw [g1, show x + am + (V' - (V + am)) = x + (V' - V) by omega], by omega, g3, g4, g5, g6, g7, g8, g9⟩
theorem pc_moreBy (hN : NC N G B) (hB : NB G B) (hen : en ≤ 15) {V : Nat} {S : Mm} {f : Nat → Nat} (hE : Fe G B en f) (hv : dv (ns G) (nd G) (fv f) 120 = ((V : Nat) : Int)) (hF : LF (S 0) G B f) (h0 : f 256 = B 256) : ∃ V' S' f' q T, F_X3_moreBy S N (nI en) = some (nI (V' - V), S') ∧ V ≤ V' ∧ V' ≤ 1621 ∧ Fe G B en f' ∧ dv (ns G) (nd G) (fv f') 120 = ((V' : Nat) : Int) ∧ LF (S' 0) G B f' ∧ f' 256 = B 256 ∧ FIN G B en f' q T ∧ SL G S' q T := by
  obtain ⟨V', S', f', q', T', g1, g2⟩ := pc_moreBy_4 hN hB hen 1621 FU V 0 0 S f (by omega) (by rw [FU_eq]; omega) (by omega) hE hv hF h0
  rw [Nat.zero_add] at g1
  exact ⟨V', S', f', q', T', g1, g2⟩
/-- the class's greatest stream by a tick -/
theorem pc_mostBy (hN : NC N G B) (hB : NB G B) (hen : en ≤ 15) (S : Mm) : ∃ V S' f q T, F_X3_mostBy S N (nI en) = some (nI V, S') ∧ V ≤ 1621 ∧ Fe G B en f ∧ dv (ns G) (nd G) (fv f) 120 = ((V : Nat) : Int) ∧ LF (S' 0) G B f ∧ FIN G B en f q T ∧ SL G S' q T := by
  obtain ⟨S1, h1, h2⟩ := pc_begin hN hB S
  obtain ⟨k1, k2⟩ := fb_fe hB en
  obtain ⟨V', S', f', q, T, g1, g2, g3, g4, g5, g6, g7, g8, g9⟩ := pc_moreBy hN hB hen k1 k2 h2 (if_pos rfl)
  unfold F_X3_mostBy
  have hp := hN.2.2.2.2.1 0 hB.1
  rw [h1, b1_some, show (0 : Int32) = nI 0 from rfl, ck_nI (by omega) (by omega), g1, b2_some, nI_clamp (by omega), hp, nI_add, show B (256 + 0) + (V' - B 256) = V' by show B 256 + _ = _; omega]
  exact ⟨V', S', f', q, T, rfl, g3, g4, g5, g6, g8, g9⟩
end CLS3
