/-! PURE PART: the class's search and its streams. -/
theorem xo : ∀ w, w < 524 → nI w ^^^ (1 : Int32) = nI (if w % 2 = 0 then w + 1 else w - 1) := by decide +kernel
theorem xo_e {e : Nat} (h : e < 262) : nI (2 * e) ^^^ (1 : Int32) = nI (2 * e + 1) := by rw [xo _ (by omega), if_pos (by omega)]
theorem xo_o {e : Nat} (h : e < 262) : nI (2 * e + 1) ^^^ (1 : Int32) = nI (2 * e) := by rw [xo _ (by omega), if_neg (by omega)]; rfl
theorem nI_n1 {n : Nat} (h : n < 2 ^ 31) : ¬ nI n = (-1 : Int32) := by
  intro z
  have h1 := nI_pos' h
  rw [z] at h1
  exact absurd h1 (by decide)
def cnt (g : Nat → Int32) : Nat → Nat
  | 0 => 0
  | n + 1 => cnt g n + (if g n = -1 then 0 else 1)
theorem cnt_le (g : Nat → Int32) : ∀ n, cnt g n ≤ n
  | 0 => Nat.le_refl _
  | n + 1 => by
    have := cnt_le g n
    show cnt g n + (if g n = -1 then 0 else 1) ≤ n + 1
    split <;> omega
theorem cnt_lt (g : Nat → Int32) {v : Nat} (hg : g v = -1) : ∀ n, v < n → cnt g n < n
  | 0, h => by omega
  | n + 1, h => by
    show cnt g n + (if g n = -1 then 0 else 1) < n + 1
    by_cases e : v = n
    · rw [← e, if_pos hg]
      have := cnt_le g v
      omega
    · have := cnt_lt g hg n (by omega)
      split <;> omega
theorem cnt_ge (g : Nat → Int32) (v : Nat) (x : Int32) : ∀ n, n ≤ v → cnt (upd g v x) n = cnt g n
  | 0, _ => rfl
  | n + 1, h => by
    show cnt (upd g v x) n + (if upd g v x n = -1 then 0 else 1) = cnt g n + (if g n = -1 then 0 else 1)
    rw [cnt_ge g v x n (by omega), pk_un (by omega)]
theorem cnt_up (g : Nat → Int32) {v : Nat} {x : Int32} (hg : g v = -1) (hx : x ≠ -1) : ∀ n, v < n → cnt (upd g v x) n = cnt g n + 1
  | 0, h => by omega
  | n + 1, h => by
    show cnt (upd g v x) n + (if upd g v x n = -1 then 0 else 1) = cnt g n + (if g n = -1 then 0 else 1) + 1
    by_cases e : v = n
    · rw [← e, cnt_ge g v x v (Nat.le_refl _), pk_us, if_pos hg, if_neg hx]
    · rw [cnt_up g hg hx n (by omega), pk_un (by omega)]; omega
theorem cnt_0 (g : Nat → Int32) : ∀ n, (∀ i, i < n → g i = -1) → cnt g n = 0
  | 0, _ => rfl
  | n + 1, h => by
    show cnt g n + (if g n = -1 then 0 else 1) = 0
    rw [cnt_0 g n (fun i hi => h i (by omega)), if_pos (h n (by omega))]
/-- the class's net -/
def NC (N : Mm) (G : Lay) (B : Nat → Nat) : Prop := N 3 0 = nI (G 0 0) ∧ N 3 1 = nI (G 1 0) ∧ (∀ k, k < G 1 0 → ∀ j, j < 3 → N 2 (k * 6 + j) = nI (G (4 + j) k)) ∧ (∀ k t, k < G 1 0 → t < 16 → F_X1_boundIn N (nI k) (nI t) = some (nI (B (16 * k + t)))) ∧ (∀ p, p < G 0 0 → N 0 p = nI (B (256 + p))) ∧ (∀ p t, 1 ≤ p → p < G 0 0 → t < 16 → N 1 p = nI (B (160 + 16 * p + t)))
def live (G : Lay) (e : Nat) : Prop := (e < 160 ∧ e / 16 < G 1 0) ∨ (176 ≤ e ∧ e < 256 ∧ (e - 160) / 16 < G 0 0) ∨ (257 ≤ e ∧ e < 262 ∧ e - 256 < G 0 0)
def LF (s0 : Nat → Int32) (G : Lay) (B f : Nat → Nat) : Prop := ∀ e, live G e → s0 (2 * e) = nI (B e - f e) ∧ s0 (2 * e + 1) = nI (f e)
def Dn (B : Nat → Nat) (S : Mm) (e : Nat) : Prop := S 0 (2 * e) = nI (B e) ∧ S 0 (2 * e + 1) = nI 0
theorem pc_bind (S N : Mm) {e : Nat} (he : e < 262) (v : Int32) : F_X3_bind S N (nI (2 * e)) v = some (va_up S 0 (upd (upd (S 0) (2 * e) v) (2 * e + 1) (nI 0))) := by
  unfold F_X3_bind F_X3_back
  rw [ck_nI (by omega) (by omega), sv_eq, b1_some, xo_e he, ck_nI (by omega) (by omega), sv_eq, nI_clamp (by omega), nI_clamp (by omega), va_up_self, bx_uu]
  rfl
theorem Dn_at {B : Nat → Nat} {S : Mm} {e : Nat} {v : Int32} (hv : v = nI (B e)) : Dn B (va_up S 0 (upd (upd (S 0) (2 * e) v) (2 * e + 1) (nI 0))) e := by
  unfold Dn
  rw [va_up_self, pk_un (by omega), pk_us, pk_us]
  exact ⟨hv, rfl⟩
theorem Dn_ne {B : Nat → Nat} {S : Mm} {e e' : Nat} {v : Int32} (h : Dn B S e') (hne : e' ≠ e) : Dn B (va_up S 0 (upd (upd (S 0) (2 * e) v) (2 * e + 1) (nI 0))) e' := by
  unfold Dn
  rw [va_up_self, pk_un (by omega), pk_un (by omega), pk_un (by omega), pk_un (by omega)]
  exact h
theorem Dn_keep {B : Nat → Nat} {S : Mm} {e e' : Nat} {v : Int32} (hv : v = nI (B e)) (h : Dn B S e') : Dn B (va_up S 0 (upd (upd (S 0) (2 * e) v) (2 * e + 1) (nI 0))) e' := by
  by_cases c : e' = e
  · rw [c]; exact Dn_at hv
  · exact Dn_ne h c
section CLS
variable {N : Mm} {G : Lay} {B : Nat → Nat}
theorem pc_through {k t : Nat} : F_X3_through (nI k) (nI t) = some (nI (2 * (16 * k + t))) := by
  unfold F_X3_through
  rw [show (16 : Int32) = nI 16 from rfl, show (2 : Int32) = nI 2 from rfl, pk_mul, nI_add, pk_mul, Nat.mul_comm k 16]
theorem pc_waiting {u : Nat} : F_X3_waiting (nI u) = some (nI (2 * (160 + u))) := by
  unfold F_X3_waiting
  rw [show (320 : Int32) = nI 320 from rfl, show (2 : Int32) = nI 2 from rfl, pk_mul, nI_add, show 320 + 2 * u = 2 * (160 + u) by omega]
theorem pc_settingOut {p : Nat} : F_X3_settingOut (nI p) = some (nI (2 * (256 + p))) := by
  unfold F_X3_settingOut
  rw [show (512 : Int32) = nI 512 from rfl, show (2 : Int32) = nI 2 from rfl, pk_mul, nI_add, show 512 + 2 * p = 2 * (256 + p) by omega]
theorem pc_begin_15 (hN : NC N G B) (hB : NB G B) (k2 : Mm → Mm → Int32 → Option Mm) {k : Nat} (hk : k < G 1 0) : ∀ (r n t : Nat) (S : Mm), t + r = 16 → r < n → ∃ S', F_X3_begin_15 k2 n S N (nI k) (nI t) = k2 S' N (nI (k + 1)) ∧ (∀ e, Dn B S e → Dn B S' e) ∧ ∀ t', t ≤ t' → t' < 16 → Dn B S' (16 * k + t')
  | r, 0, t, S, _, h => by omega
  | 0, n + 1, t, S, ht, h => by
    have e : t = 16 := by omega
    subst e
    refine ⟨S, ?_, fun _ h => h, fun t' h1 h2 => by omega⟩
    show F_X3_beginB_15 k2 (F_X3_begin_15 k2 n) S N (nI k) (nI 16) = _
    unfold F_X3_beginB_15
    rw [if_pos (by decide), nI_succ]
  | r + 1, n + 1, t, S, ht, h => by
    have hm := hB.2.2.1
    show ∃ S', F_X3_beginB_15 k2 (F_X3_begin_15 k2 n) S N (nI k) (nI t) = _ ∧ _
    unfold F_X3_beginB_15
    rw [if_neg (show ¬ (16 : Int32) ≤ nI t from nI_ge (b := 16) (by omega) (by omega)), pc_through, b1_some, hN.2.2.2.1 k t hk (by omega), b1_some, pc_bind S N (by omega), b1_some, ← nI_succ]
    obtain ⟨S', h1, h2, h3⟩ := pc_begin_15 hN hB k2 hk r n (t + 1) (va_up S 0 (upd (upd (S 0) (2 * (16 * k + t)) (nI (B (16 * k + t)))) (2 * (16 * k + t) + 1) (nI 0))) (by omega) (by omega)
    refine ⟨S', h1, fun e he => h2 e (Dn_keep rfl he), fun t' h4 h5 => ?_⟩
    by_cases c : t' = t
    · rw [c]; exact h2 _ (Dn_at rfl)
    · exact h3 t' (by omega) h5
theorem pc_begin_83 (hN : NC N G B) (hB : NB G B) (k53 : Mm → Mm → Int32 → Option Mm) {p : Nat} (hp : p < G 0 0) : ∀ (r n t : Nat) (S : Mm), t + r = 16 → r < n → ∃ S', F_X3_begin_83 k53 n S N (nI p) (nI t) = k53 S' N (nI (p + 1)) ∧ (∀ e, e < 160 ∨ 176 ≤ e → Dn B S e → Dn B S' e) ∧ ∀ t', 1 ≤ p → t ≤ t' → t' < 16 → Dn B S' (160 + 16 * p + t')
  | r, 0, t, S, _, h => by omega
  | 0, n + 1, t, S, ht, h => by
    have e : t = 16 := by omega
    subst e
    refine ⟨S, ?_, fun _ _ h => h, fun t' _ h1 h2 => by omega⟩
    show F_X3_beginB_83 k53 (F_X3_begin_83 k53 n) S N (nI p) (nI 16) = _
    unfold F_X3_beginB_83
    rw [if_pos (by decide), nI_succ]
  | r + 1, n + 1, t, S, ht, h => by
    have hm := hB.2.1
    show ∃ S', F_X3_beginB_83 k53 (F_X3_begin_83 k53 n) S N (nI p) (nI t) = _ ∧ _
    unfold F_X3_beginB_83
    rw [if_neg (show ¬ (16 : Int32) ≤ nI t from nI_ge (b := 16) (by omega) (by omega)), show (16 : Int32) = nI 16 from rfl, pk_mul, nI_add, pc_waiting, b1_some, ck_nI (by omega) (by omega), nI_clamp (by omega), pc_bind S N (by omega), b1_some, ← nI_succ]
    obtain ⟨S', h1, h2, h3⟩ := pc_begin_83 hN hB k53 hp r n (t + 1) (va_up S 0 (upd (upd (S 0) (2 * (160 + (p * 16 + t))) (N 1 p)) (2 * (160 + (p * 16 + t)) + 1) (nI 0))) (by omega) (by omega)
    by_cases c1 : 1 ≤ p
    · have hv : N 1 p = nI (B (160 + (p * 16 + t))) := by rw [hN.2.2.2.2.2 p t c1 hp (by omega)]; congr 2; omega
      refine ⟨S', h1, fun e hr he => h2 e hr (Dn_keep hv he), fun t' _ h4 h5 => ?_⟩
      by_cases c : t' = t
      · rw [c, show 160 + 16 * p + t = 160 + (p * 16 + t) by omega]; exact h2 _ (by omega) (Dn_at hv)
      · exact h3 t' c1 (by omega) h5
    · exact ⟨S', h1, fun e hr he => h2 e hr (Dn_ne he (by omega)), fun t' h4 => absurd h4 c1⟩
theorem pc_begin_53 (hN : NC N G B) (hB : NB G B) : ∀ (r n p : Nat) (S : Mm), p + r = G 0 0 → r < n → ∃ S', F_X3_begin_53 n S N (nI p) = some S' ∧ (∀ e, e < 160 ∨ 176 ≤ e → Dn B S e → Dn B S' e) ∧ ∀ p', p ≤ p' → p' < G 0 0 → Dn B S' (256 + p') ∧ ∀ t', 1 ≤ p' → t' < 16 → Dn B S' (160 + 16 * p' + t')
  | r, 0, p, S, _, h => by omega
  | 0, n + 1, p, S, hp, h => by
    have hm := hB.2.1
    have e : p = G 0 0 := by omega
    refine ⟨S, ?_, fun _ _ h => h, fun p' h1 h2 => by omega⟩
    show F_X3_beginB_53 (F_X3_begin_53 n) S N (nI p) = _
    unfold F_X3_beginB_53
    rw [hN.1, e, if_pos (nI_le (Nat.le_refl _) (by omega))]
  | r + 1, n + 1, p, S, hp, h => by
    have hm := hB.2.1
    show ∃ S', F_X3_beginB_53 (F_X3_begin_53 n) S N (nI p) = _ ∧ _
    unfold F_X3_beginB_53
    rw [hN.1, if_neg (nI_ge (by omega) (by omega)), pc_settingOut, b1_some, ck_nI (by omega) (by omega), nI_clamp (by omega), pc_bind S N (by omega), b1_some, hN.2.2.2.2.1 p (by omega)]
    obtain ⟨S1, a1, a2, a3⟩ := pc_begin_83 hN hB (F_X3_begin_53 n) (p := p) (by omega) 16 FU 0 (va_up S 0 (upd (upd (S 0) (2 * (256 + p)) (nI (B (256 + p)))) (2 * (256 + p) + 1) (nI 0))) (by omega) (by rw [FU_eq]; omega)
    obtain ⟨S', h1, h2, h3⟩ := pc_begin_53 hN hB r n (p + 1) S1 (by omega) (by omega)
    refine ⟨S', by rw [show (0 : Int32) = nI 0 from rfl, a1, h1], fun e hr he => h2 e hr (a2 e hr (Dn_keep rfl he)), fun p' h4 h5 => ?_⟩
    by_cases c : p' = p
    · rw [c]
      exact ⟨h2 _ (by omega) (a2 _ (by omega) (Dn_at rfl)), fun t' h6 h7 => h2 _ (by omega) (a3 t' h6 (by omega) h7)⟩
    · exact h3 p' (by omega) h5
theorem pc_begin_2 (hN : NC N G B) (hB : NB G B) : ∀ (r n k : Nat) (S : Mm), k + r = G 1 0 → r < n → ∃ S', F_X3_begin_2 n S N (nI k) = some S' ∧ (∀ e, e < 160 → Dn B S e → Dn B S' e) ∧ (∀ k' t', k ≤ k' → k' < G 1 0 → t' < 16 → Dn B S' (16 * k' + t')) ∧ ∀ p', p' < G 0 0 → Dn B S' (256 + p') ∧ ∀ t', 1 ≤ p' → t' < 16 → Dn B S' (160 + 16 * p' + t')
  | r, 0, k, S, _, h => by omega
  | 0, n + 1, k, S, hk, h => by
    have hm := hB.2.2.1
    have hm2 := hB.2.1
    have e : k = G 1 0 := by omega
    obtain ⟨S', h1, h2, h3⟩ := pc_begin_53 hN hB (G 0 0) FU 0 S (by omega) (by rw [FU_eq]; omega)
    refine ⟨S', ?_, fun e he => h2 e (Or.inl he), fun k' t' h1 h2 => by omega, fun p' hp' => h3 p' (by omega) hp'⟩
    show F_X3_beginB_2 (F_X3_begin_2 n) S N (nI k) = _
    unfold F_X3_beginB_2
    rw [hN.2.1, e, if_pos (nI_le (Nat.le_refl _) (by omega)), show (0 : Int32) = nI 0 from rfl, h1]
  | r + 1, n + 1, k, S, hk, h => by
    have hm := hB.2.2.1
    show ∃ S', F_X3_beginB_2 (F_X3_begin_2 n) S N (nI k) = _ ∧ _
    unfold F_X3_beginB_2
    rw [hN.2.1, if_neg (nI_ge (by omega) (by omega))]
    obtain ⟨S1, a1, a2, a3⟩ := pc_begin_15 hN hB (F_X3_begin_2 n) (k := k) (by omega) 16 FU 0 S (by omega) (by rw [FU_eq]; omega)
    obtain ⟨S', h1, h2, h3, h4⟩ := pc_begin_2 hN hB r n (k + 1) S1 (by omega) (by omega)
    refine ⟨S', by rw [show (0 : Int32) = nI 0 from rfl, a1, h1], fun e hr he => h2 e hr (a2 e he), fun k' t' h5 h6 h7 => ?_, h4⟩
    by_cases c : k' = k
    · rw [c]
      exact h2 _ (by omega) (a3 t' (by omega) h7)
    · exact h3 k' t' (by omega) h6 h7
/-- the stream at first: the exit's own units are there -/
def fb (B : Nat → Nat) : Nat → Nat := fun e => if e = 256 then B 256 else 0
theorem pc_begin (hN : NC N G B) (hB : NB G B) (S : Mm) : ∃ S', F_X3_begin S N = some S' ∧ LF (S' 0) G B (fb B) := by
  have hm := hB.2.2.1
  obtain ⟨S', h1, -, h3, h4⟩ := pc_begin_2 hN hB (G 1 0) FU 0 S (by omega) (by rw [FU_eq]; omega)
  refine ⟨S', h1, fun e he => ?_⟩
  have hd : Dn B S' e := by
    rcases he with ⟨e1, e2⟩ | ⟨e1, e2, e3⟩ | ⟨e1, e2, e3⟩
    · have := h3 (e / 16) (e % 16) (by omega) e2 (by omega)
      rw [show 16 * (e / 16) + e % 16 = e by omega] at this
      exact this
    · have := (h4 ((e - 160) / 16) e3).2 (e % 16) (by omega) (by omega)
      rw [show 160 + 16 * ((e - 160) / 16) + e % 16 = e by omega] at this
      exact this
    · have := (h4 (e - 256) e3).1
      rw [show 256 + (e - 256) = e by omega] at this
      exact this
  have hne : e ≠ 256 := by
    rcases he with ⟨e1, e2⟩ | ⟨e1, e2, e3⟩ | ⟨e1, e2, e3⟩ <;> omega
  have hf : fb B e = 0 := if_neg hne
  rw [hf]
  exact hd
theorem fb_fe (hB : NB G B) (en : Nat) : Fe G B en (fb B) ∧ dv (ns G) (nd G) (fv (fb B)) 120 = ((B 256 : Nat) : Int) := by
  have e0 : fv (fb B) = pu (fun _ => 0) 256 ((B 256 : Nat) : Int) := by
    funext e
    show ((fb B e : Nat) : Int) = if e = 256 then (0 : Int) + ((B 256 : Nat) : Int) else 0
    unfold fb
    by_cases c : e = 256
    · rw [if_pos c, if_pos c]; omega
    · rw [if_neg c, if_neg c]; rfl
  have hz : ∀ v, dv (ns G) (nd G) (fun _ => 0) v = 0 := by
    intro v
    unfold dv
    rw [sm_congr (h := fun _ => 0) (fun e _ => by rw [Int.zero_mul]), sm_0]
  have n1 : ns G 256 = 120 := rfl
  have n2 : nd G 256 = 0 := rfl
  refine ⟨⟨fun e he => ?_, fun v h1 h2 => ?_⟩, ?_⟩
  · unfold fb
    by_cases c : e = 256
    · rw [if_pos c, c]
      have : cx G B en 256 = B 256 := by
        unfold cx
        rw [if_neg (by omega), if_neg (by omega), if_pos (by have := hB.1; omega)]
      omega
    · rw [if_neg c]; omega
  · rw [e0, dv_pu _ (by omega), hz, n1, n2, if_neg (by omega), if_neg (by omega)]; simp
  · rw [e0, dv_pu _ (by omega), hz, n1, n2, if_pos rfl, if_neg (by omega)]; simp
end CLS
