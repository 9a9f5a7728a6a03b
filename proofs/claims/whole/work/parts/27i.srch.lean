/-! PURE PART: the class's search, its carrying, its greatest stream. -/
/-- what the class's rows say of what was reached -/
def SL (G : Lay) (S : Mm) (q : Nat) (T : Lay) : Prop := S 4 0 = nI q ∧ cnt (S 1) 96 = q ∧ (∀ i, i < q → S 3 i = nI (T 0 i)) ∧ ∀ v, v < 96 → (S 1 v = -1 ∧ ¬ RE q T v) ∨ (RE q T v ∧ S 1 v = nI (T 2 v) ∧ S 2 v = (if T 3 v = 120 then -1 else nI (T 3 v)) ∧ live G (T 2 v / 2))
def AR (S : Mm) (q : Nat) (T : Lay) : Prop := (S 4 1 = -1 ∧ ∀ i, i < q → 16 ≤ T 0 i) ∨ ∃ a, a < 16 ∧ S 4 1 = nI a ∧ RE q T a
def SS (G : Lay) (B : Nat → Nat) (en : Nat) (f : Nat → Nat) (S : Mm) (q : Nat) (T : Lay) : Prop := SR G B en f q T ∧ SL G S q T ∧ AR S q T
theorem live_lt {G : Lay} {e : Nat} (h : live G e) : e < 262 ∧ e ≠ 256 := by
  rcases h with ⟨e1, e2⟩ | ⟨e1, e2, e3⟩ | ⟨e1, e2, e3⟩ <;> omega
theorem SR_w {G : Lay} {B : Nat → Nat} {en : Nat} {f : Nat → Nat} {q : Nat} {T : Lay} (h : SR G B en f q T) {v : Nat} (h9 : v < 96) (hv : RE q T v) : RE q T (T 3 v) ∧ sp G B en f (T 3 v) (T 2 v) v ∧ T 1 (T 3 v) < T 1 v ∧ 1 ≤ T 1 v := by
  rcases hv with hv | ⟨i, hi, hv⟩
  · omega
  · obtain ⟨g1, g2, g3, g4, g5, g6, g7⟩ := h.2 i hi
    rw [hv] at g1 g2 g3 g4 g5 g6 g7
    exact ⟨g6, g7, by omega, by omega⟩
theorem sp_w {G : Lay} {B : Nat → Nat} {en : Nat} {f : Nat → Nat} {x w v : Nat} (h : sp G B en f x w v) : w < 524 := by have := h.1; omega
theorem pc_tryWay {N : Mm} {G : Lay} {B : Nat → Nat} {en : Nat} {f : Nat → Nat} {S : Mm} {q : Nat} {T : Lay} {x v w ρ : Nat} {x1 : Int32} (h : SS G B en f S q T) (hv : v < 96) (hv2 : v % 16 ≤ en) (hv3 : v / 16 < G 0 0) (hx : RE q T x) (hx1 : x1 = if x = 120 then -1 else nI x) (hw : live G (w / 2)) (hρ : S 0 w = nI ρ) (hρ2 : ρ < 2 ^ 31) (hs : 0 < ρ → sp G B en f x w v) : ∃ S' q' T', F_X3_tryWay S N x1 (nI w) (nI v) = some S' ∧ SS G B en f S' q' T' ∧ S' 0 = S 0 ∧ EX q T q' T' ∧ (0 < ρ → RE q' T' v) := by
  obtain ⟨hR, hL, hA⟩ := h
  have hw5 : w < 524 := by have := (live_lt hw).1; omega
  unfold F_X3_tryWay
  rw [ck_nI hv (by omega), nI_clamp (by omega)]
  rcases hL.2.2.2 v hv with ⟨c1, c2⟩ | ⟨c1, c2, c3⟩
  · rw [if_pos c1, ck_nI hw5 (by omega), nI_clamp (by omega), hρ]
    by_cases c : ρ = 0
    · rw [c, if_pos (show nI 0 = (0 : Int32) from rfl)]
      exact ⟨S, q, T, rfl, ⟨hR, hL, hA⟩, rfl, EX.refl q T, fun z => by omega⟩
    · have hsp := hs (by omega)
      have hq : q < 96 := by rw [← hL.2.1]; exact cnt_lt _ c1 96 hv
      have hxv : x ≠ v := fun z => c2 (z ▸ hx)
      have k1 : S 4 0 = nI q := hL.1
      rw [if_neg (nI_ne0 (n := ρ) (by omega) hρ2), ck_nI hv (by omega), sv_eq, ck_nI hv (by omega), sv_eq, va_up_ne _ _ (show (4 : Nat) ≠ 2 by decide), va_up_ne _ _ (show (4 : Nat) ≠ 1 by decide), k1, ck_nI hq (by omega), sv_eq, sv_eq, nI_clamp (by omega)]
      have g0 : ∀ S14 : Mm, S14 = va_up (va_up (va_up (va_up S 1 (upd (S 1) v (nI w))) 2 (upd (va_up S 1 (upd (S 1) v (nI w)) 2) v x1)) 3 (upd (va_up (va_up S 1 (upd (S 1) v (nI w))) 2 (upd (va_up S 1 (upd (S 1) v (nI w)) 2) v x1) 3) q (nI v))) 4 (upd (va_up (va_up (va_up S 1 (upd (S 1) v (nI w))) 2 (upd (va_up S 1 (upd (S 1) v (nI w)) 2) v x1)) 3 (upd (va_up (va_up S 1 (upd (S 1) v (nI w))) 2 (upd (va_up S 1 (upd (S 1) v (nI w)) 2) v x1) 3) q (nI v)) 4) 0 (va_up (va_up (va_up S 1 (upd (S 1) v (nI w))) 2 (upd (va_up S 1 (upd (S 1) v (nI w)) 2) v x1)) 3 (upd (va_up (va_up S 1 (upd (S 1) v (nI w))) 2 (upd (va_up S 1 (upd (S 1) v (nI w)) 2) v x1) 3) q (nI v)) 4 0 + 1)) → S14 0 = S 0 ∧ S14 1 = upd (S 1) v (nI w) ∧ S14 2 = upd (S 2) v x1 ∧ S14 3 = upd (S 3) q (nI v) ∧ S14 4 0 = nI (q + 1) ∧ S14 4 1 = S 4 1 := by
        intro S14 hS
        subst hS
        refine ⟨?_, ?_, ?_, ?_, ?_, ?_⟩
        · rw [va_up_ne _ _ (by decide), va_up_ne _ _ (by decide), va_up_ne _ _ (by decide), va_up_ne _ _ (by decide)]
        · rw [va_up_ne _ _ (by decide), va_up_ne _ _ (by decide), va_up_ne _ _ (by decide), va_up_self]
        · rw [va_up_ne _ _ (by decide), va_up_ne _ _ (by decide), va_up_self, va_up_ne _ _ (by decide)]
        · rw [va_up_ne _ _ (by decide), va_up_self, va_up_ne _ _ (by decide), va_up_ne _ _ (by decide)]
        · rw [va_up_self, pk_us, va_up_ne _ _ (by decide), va_up_ne _ _ (by decide), va_up_ne _ _ (by decide), k1, ← nI_succ]
        · rw [va_up_self, pk_un (by decide), va_up_ne _ _ (by decide), va_up_ne _ _ (by decide), va_up_ne _ _ (by decide)]
      obtain ⟨a0, a1, a2, a3, a4, a5⟩ := g0 _ rfl
      have hL2 : ∀ S14 : Mm, S14 1 = upd (S 1) v (nI w) → S14 2 = upd (S 2) v x1 → S14 3 = upd (S 3) q (nI v) → S14 4 0 = nI (q + 1) → SL G S14 (q + 1) (tT q T x w v) := by
        intro S14 b1 b2 b3 b4
        refine ⟨b4, ?_, fun i hi => ?_, fun u hu => ?_⟩
        · rw [b1, cnt_up _ c1 (nI_n1 (by omega)) 96 hv, hL.2.1]
        · rw [b3]
          by_cases c : i = q
          · rw [c, pk_us, tT_0q]
          · rw [pk_un c, tT_0 T x w v c]; exact hL.2.2.1 i (by omega)
        · rw [b1, b2]
          by_cases c : u = v
          · subst c
            right
            rw [pk_us, pk_us, (tT_1 q T x w u).2.1, (tT_1 q T x w u).2.2]
            exact ⟨RE_push q T x w u, rfl, hx1, hw⟩
          · rw [pk_un c, pk_un c, tT_n T x w (by omega) c, tT_n T x w (by omega) c]
            rcases hL.2.2.2 u hu with ⟨d1, d2⟩ | ⟨d1, d2⟩
            · exact Or.inl ⟨d1, fun z => d2 (RE_back z c)⟩
            · exact Or.inr ⟨(EX_push q T x w v).re d1, d2⟩
      have hR2 := SR_push hR hv hv2 hv3 c2 hx hsp
      by_cases c16 : 16 ≤ v
      · rw [if_pos (show (16 : Int32) ≤ nI v from nI_le (a := 16) c16 (by omega))]
        refine ⟨_, q + 1, tT q T x w v, rfl, ⟨hR2, hL2 _ a1 a2 a3 a4, ?_⟩, a0, EX_push q T x w v, fun _ => RE_push q T x w v⟩
        rcases hA with ⟨d1, d2⟩ | ⟨a, d1, d2, d3⟩
        · left
          refine ⟨by rw [a5]; exact d1, fun i hi => ?_⟩
          by_cases c : i = q
          · rw [c, tT_0q]; exact c16
          · rw [tT_0 T x w v c]; exact d2 i (by omega)
        · exact Or.inr ⟨a, d1, by rw [a5]; exact d2, (EX_push q T x w v).re d3⟩
      · rw [if_neg (show ¬ (16 : Int32) ≤ nI v from nI_ge (b := 16) (by omega) (by omega)), sv_eq]
        refine ⟨_, q + 1, tT q T x w v, rfl, ⟨hR2, hL2 _ ?_ ?_ ?_ ?_, ?_⟩, ?_, EX_push q T x w v, fun _ => RE_push q T x w v⟩
        · rw [va_up_ne _ _ (by decide)]; exact a1
        · rw [va_up_ne _ _ (by decide)]; exact a2
        · rw [va_up_ne _ _ (by decide)]; exact a3
        · rw [va_up_self, pk_un (by decide)]; exact a4
        · exact Or.inr ⟨v, by omega, by rw [va_up_self, pk_us], RE_push q T x w v⟩
        · rw [va_up_ne _ _ (by decide)]; exact a0
  · have h2 : T 2 v < 524 := by have := (live_lt c3.2).1; omega
    rw [if_neg (by rw [c2]; exact nI_n1 (by omega))]
    exact ⟨S, q, T, rfl, ⟨hR, hL, hA⟩, rfl, EX.refl q T, fun _ => c1⟩
/-- the steps from a moment, one by one -/
theorem sp_pipe {G : Lay} {B : Nat → Nat} {en : Nat} {f : Nat → Nat} {u w v : Nat} (hB : NB G B) (hen : en ≤ 15) (hf : ∀ e, e < 262 → f e ≤ cx G B en e) (h : sp G B en f u w v) (hw : w / 2 < 160) : w / 2 / 16 < G 1 0 ∧ ((w % 2 = 0 ∧ G 4 (w / 2 / 16) = u / 16 ∧ G 4 (w / 2 / 16) ≠ 0 ∧ w / 2 % 16 = u % 16 ∧ u % 16 + G 6 (w / 2 / 16) ≤ en ∧ v = 16 * G 5 (w / 2 / 16) + (u % 16 + G 6 (w / 2 / 16)) ∧ f (w / 2) < B (w / 2)) ∨ (w % 2 = 1 ∧ G 4 (w / 2 / 16) ≠ 0 ∧ G 5 (w / 2 / 16) = u / 16 ∧ w / 2 % 16 + G 6 (w / 2 / 16) = u % 16 ∧ v = 16 * G 4 (w / 2 / 16) + w / 2 % 16 ∧ 0 < f (w / 2))) := by
  have hc : ∀ e, e < 160 → 0 < cx G B en e → e / 16 < G 1 0 ∧ G 4 (e / 16) ≠ 0 ∧ e % 16 + G 6 (e / 16) ≤ en ∧ cx G B en e = B e := by
    intro e he h0
    unfold cx at h0 ⊢
    rw [if_pos he] at h0 ⊢
    by_cases c : e / 16 < G 1 0 ∧ G 4 (e / 16) ≠ 0 ∧ e % 16 + G 6 (e / 16) ≤ en
    · rw [if_pos c]; exact ⟨c.1, c.2.1, c.2.2, rfl⟩
    · rw [if_neg c] at h0; omega
  rcases h with ⟨h0, ⟨h1, h2, h3, h4⟩ | ⟨h1, h2, h3, h4⟩⟩
  · obtain ⟨k1, k2, k3, k4⟩ := hc _ hw (by omega)
    refine ⟨k1, Or.inl ?_⟩
    unfold ns at h2
    unfold nd at h3
    rw [if_pos hw, if_pos k1] at h2
    rw [if_pos hw, if_pos ⟨k1, by omega⟩] at h3
    have hr := hB.2.2.2.1 _ k1
    refine ⟨h1, by omega, k2, by omega, ?_, ?_, by omega⟩
    · rw [← h2, show (16 * G 4 (w / 2 / 16) + w / 2 % 16) % 16 = w / 2 % 16 by omega]; exact k3
    · rw [← h3, ← h2, show (16 * G 4 (w / 2 / 16) + w / 2 % 16) % 16 = w / 2 % 16 by omega]
  · obtain ⟨k1, k2, k3, k4⟩ := hc _ hw (by have := hf _ h0; omega)
    refine ⟨k1, Or.inr ?_⟩
    unfold ns at h3
    unfold nd at h2
    rw [if_pos hw, if_pos k1] at h3
    rw [if_pos hw, if_pos ⟨k1, by omega⟩] at h2
    exact ⟨h1, k2, by omega, by omega, h3.symm, h4⟩
theorem sp_wait {G : Lay} {B : Nat → Nat} {en : Nat} {f : Nat → Nat} {u w v : Nat} (hen : en ≤ 15) (hf : ∀ e, e < 262 → f e ≤ cx G B en e) (h : sp G B en f u w v) (hw : 160 ≤ w / 2) (hw2 : w / 2 < 256) : (w % 2 = 0 ∧ w / 2 = 160 + u ∧ v = u + 1 ∧ u % 16 < en ∧ u / 16 < G 0 0 ∧ f (w / 2) < B (w / 2)) ∨ (w % 2 = 1 ∧ w / 2 = 159 + u ∧ 1 ≤ u % 16 ∧ v + 1 = u ∧ 0 < f (w / 2)) := by
  have hc : ∀ e, 160 ≤ e → e < 256 → 0 < cx G B en e → (e - 160) / 16 < G 0 0 ∧ e % 16 < en ∧ cx G B en e = B e := by
    intro e he he2 h0
    unfold cx at h0 ⊢
    rw [if_neg (by omega), if_pos he2] at h0 ⊢
    by_cases c : (e - 160) / 16 < G 0 0 ∧ e % 16 < en
    · rw [if_pos c]; exact ⟨c.1, c.2, rfl⟩
    · rw [if_neg c] at h0; omega
  rcases h with ⟨h0, ⟨h1, h2, h3, h4⟩ | ⟨h1, h2, h3, h4⟩⟩
  · obtain ⟨k1, k2, k3⟩ := hc _ hw hw2 (by omega)
    unfold ns at h2
    unfold nd at h3
    rw [if_neg (by omega), if_pos hw2] at h2
    rw [if_neg (by omega), if_pos hw2, if_neg (by omega)] at h3
    left
    exact ⟨h1, by omega, by omega, by omega, by omega, by omega⟩
  · obtain ⟨k1, k2, k3⟩ := hc _ hw hw2 (by have := hf _ h0; omega)
    unfold ns at h3
    unfold nd at h2
    rw [if_neg (by omega), if_pos hw2] at h3
    rw [if_neg (by omega), if_pos hw2, if_neg (by omega)] at h2
    right
    exact ⟨h1, by omega, by omega, by omega, h4⟩
theorem sp_out {G : Lay} {B : Nat → Nat} {en : Nat} {f : Nat → Nat} {u w v : Nat} (h : sp G B en f u w v) (hw : 256 ≤ w / 2) (hu : u < 120) : v = 120 := by
  rcases h with ⟨h0, ⟨h1, h2, h3, h4⟩ | ⟨h1, h2, h3, h4⟩⟩
  · unfold ns at h2
    rw [if_neg (by omega), if_neg (by omega)] at h2
    omega
  · unfold ns at h3
    rw [if_neg (by omega), if_neg (by omega)] at h3
    exact h3.symm
theorem sp_src {G : Lay} {B : Nat → Nat} {en : Nat} {f : Nat → Nat} {w v : Nat} (hB : NB G B) (h : sp G B en f 120 w v) : w % 2 = 0 ∧ 256 ≤ w / 2 ∧ w / 2 < 262 ∧ w / 2 - 256 < G 0 0 ∧ v = 16 * (w / 2 - 256) ∧ f (w / 2) < B (w / 2) := by
  rcases h with ⟨h0, ⟨h1, h2, h3, h4⟩ | ⟨h1, h2, h3, h4⟩⟩
  · have hge : 256 ≤ w / 2 := by
      unfold ns at h2
      by_cases c1 : w / 2 < 160
      · rw [if_pos c1] at h2
        by_cases c2 : w / 2 / 16 < G 1 0
        · rw [if_pos c2] at h2
          have := (hB.2.2.2.1 _ c2).1
          have := hB.2.1
          omega
        · rw [if_neg c2] at h2; omega
      · rw [if_neg c1] at h2
        by_cases c2 : w / 2 < 256
        · rw [if_pos c2] at h2; omega
        · omega
    unfold nd at h3
    unfold cx at h4
    rw [if_neg (by omega), if_neg (by omega)] at h3 h4
    by_cases c : w / 2 - 256 < G 0 0
    · rw [if_pos c] at h4; exact ⟨h1, hge, h0, c, h3.symm, h4⟩
    · rw [if_neg c] at h4; omega
  · exfalso
    unfold nd at h2
    by_cases c1 : w / 2 < 160
    · rw [if_pos c1] at h2
      by_cases c2 : w / 2 / 16 < G 1 0 ∧ w / 2 % 16 + G 6 (w / 2 / 16) < 16
      · rw [if_pos c2] at h2
        have := (hB.2.2.2.1 _ c2.1).2.1
        have := hB.2.1
        omega
      · rw [if_neg c2] at h2; omega
    · rw [if_neg c1] at h2
      by_cases c2 : w / 2 < 256
      · rw [if_pos c2] at h2
        split at h2 <;> omega
      · rw [if_neg c2] at h2; omega
/-- and made -/
theorem sp_mk {G : Lay} {B : Nat → Nat} {en : Nat} {f : Nat → Nat} {k t : Nat} (hk : k < G 1 0) (hk10 : k < 10) (ht : t + G 6 k ≤ en) (hen : en ≤ 15) (h0 : G 4 k ≠ 0) (h : f (16 * k + t) < B (16 * k + t)) : sp G B en f (16 * G 4 k + t) (2 * (16 * k + t)) (16 * G 5 k + (t + G 6 k)) := by
  have e0 : (16 * k + t) / 16 = k := by omega
  have e1 : (16 * k + t) % 16 = t := by omega
  have e2 : ns G (16 * k + t) = 16 * G 4 k + t := by unfold ns; rw [e0, e1, if_pos (by omega), if_pos hk]
  have e3 : nd G (16 * k + t) = 16 * G 5 k + (t + G 6 k) := by unfold nd; rw [e0, e1, if_pos (by omega), if_pos ⟨hk, by omega⟩]
  have e4 : cx G B en (16 * k + t) = B (16 * k + t) := by unfold cx; rw [e0, e1, if_pos (by omega), if_pos ⟨hk, h0, ht⟩]
  have := sp_f (G := G) (B := B) (en := en) (f := f) (e := 16 * k + t) (by omega) (by omega)
  rw [e2, e3] at this
  exact this
theorem sp_mkb {G : Lay} {B : Nat → Nat} {en : Nat} {f : Nat → Nat} {k t : Nat} (hk : k < G 1 0) (hk10 : k < 10) (ht : t + G 6 k ≤ 15) (h : 0 < f (16 * k + t)) : sp G B en f (16 * G 5 k + (t + G 6 k)) (2 * (16 * k + t) + 1) (16 * G 4 k + t) := by
  have e0 : (16 * k + t) / 16 = k := by omega
  have e1 : (16 * k + t) % 16 = t := by omega
  have e2 : ns G (16 * k + t) = 16 * G 4 k + t := by unfold ns; rw [e0, e1, if_pos (by omega), if_pos hk]
  have e3 : nd G (16 * k + t) = 16 * G 5 k + (t + G 6 k) := by unfold nd; rw [e0, e1, if_pos (by omega), if_pos ⟨hk, by omega⟩]
  have := sp_b (G := G) (B := B) (en := en) (f := f) (e := 16 * k + t) (by omega) h
  rw [e2, e3] at this
  exact this
theorem sp_mkw {G : Lay} {B : Nat → Nat} {en : Nat} {f : Nat → Nat} {u : Nat} (hu : u < 96) (ht : u % 16 < en) (hen : en ≤ 15) (hp : u / 16 < G 0 0) (h : f (160 + u) < B (160 + u)) : sp G B en f u (2 * (160 + u)) (u + 1) := by
  have e2 : ns G (160 + u) = u := by unfold ns; rw [if_neg (by omega), if_pos (by omega)]; omega
  have e3 : nd G (160 + u) = u + 1 := by unfold nd; rw [if_neg (by omega), if_pos (by omega), if_neg (by omega)]; omega
  have e4 : cx G B en (160 + u) = B (160 + u) := by unfold cx; rw [if_neg (by omega), if_pos (by omega), if_pos ⟨by omega, by omega⟩]
  have := sp_f (G := G) (B := B) (en := en) (f := f) (e := 160 + u) (by omega) (by omega)
  rw [e2, e3] at this
  exact this
theorem sp_mkwb {G : Lay} {B : Nat → Nat} {en : Nat} {f : Nat → Nat} {u : Nat} (hu : u < 96) (ht : u % 16 < 15) (h : 0 < f (160 + u)) : sp G B en f (u + 1) (2 * (160 + u) + 1) u := by
  have e2 : ns G (160 + u) = u := by unfold ns; rw [if_neg (by omega), if_pos (by omega)]; omega
  have e3 : nd G (160 + u) = u + 1 := by unfold nd; rw [if_neg (by omega), if_pos (by omega), if_neg (by omega)]; omega
  have := sp_b (G := G) (B := B) (en := en) (f := f) (e := 160 + u) (by omega) h
  rw [e2, e3] at this
  exact this
theorem sp_mko {G : Lay} {B : Nat → Nat} {en : Nat} {f : Nat → Nat} {p : Nat} (hp6 : p < 6) (hp : p < G 0 0) (h : f (256 + p) < B (256 + p)) : sp G B en f 120 (2 * (256 + p)) (16 * p) := by
  have e2 : ns G (256 + p) = 120 := by unfold ns; rw [if_neg (by omega), if_neg (by omega)]
  have e3 : nd G (256 + p) = 16 * p := by unfold nd; rw [if_neg (by omega), if_neg (by omega)]; omega
  have e4 : cx G B en (256 + p) = B (256 + p) := by unfold cx; rw [if_neg (by omega), if_neg (by omega), if_pos (by omega)]
  have := sp_f (G := G) (B := B) (en := en) (f := f) (e := 256 + p) (by omega) (by omega)
  rw [e2, e3] at this
  exact this
