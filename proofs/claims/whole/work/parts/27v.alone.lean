/-! PURE PART: placeOf: sets of pipes, a unit alone. -/
def lyA (A : Lay) (p : Nat) : Lay := fun i j => if i = 2 then (if j = p then 1 else 0) else A i j
theorem lyA_n (A : Lay) (p : Nat) {i : Nat} (j : Nat) (h : i ≠ 2) : lyA A p i j = A i j := by
  unfold lyA
  rw [if_neg h]
theorem lyA_2 (A : Lay) (p j : Nat) : lyA A p 2 j = if j = p then 1 else 0 := by
  unfold lyA
  rw [if_pos rfl]
theorem WB_A {A : Lay} (hB : LB A) (p : Nat) : WB (lyA A p) := by
  obtain ⟨h1, h2, h3, h4, h0, h5⟩ := hB.wb
  refine ⟨h1, h2, h3, fun q hq => ⟨?_, ?_⟩, ?_, fun k hk => h5 k hk⟩
  · rw [lyA_2]; split <;> omega
  · rw [lyA_n A p q (by omega)]; exact (h4 q hq).2
  · rw [lyA_2]; split <;> omega
/-- a way that takes something -/
theorem edge {G : Lay} {B : Nat → Nat} (hB : NB G B) {e w : Nat} (he : e ≤ 15) (hw : w < 256) (h : 0 < cx G B e w) : ns G w < 96 ∧ nd G w < 96 ∧ ns G w % 16 < nd G w % 16 ∧ nd G w % 16 ≤ e ∧ 0 < B w ∧ ∀ e', nd G w % 16 ≤ e' → 0 < cx G B e' w := by
  have h2 := hB.2.1
  have hbw := cx_le (G := G) (B := B) (en := e) (e := w)
  unfold cx at h
  by_cases c1 : w < 160
  · rw [if_pos c1] at h
    by_cases c2 : w / 16 < G 1 0 ∧ G 4 (w / 16) ≠ 0 ∧ w % 16 + G 6 (w / 16) ≤ e
    · rw [if_pos c2] at h
      obtain ⟨g1, g2, g3, g4, g5⟩ := hB.2.2.2.1 _ c2.1
      have e1 : ns G w = 16 * G 4 (w / 16) + w % 16 := by unfold ns; rw [if_pos c1, if_pos c2.1]
      have e2 : nd G w = 16 * G 5 (w / 16) + (w % 16 + G 6 (w / 16)) := by unfold nd; rw [if_pos c1, if_pos ⟨c2.1, by omega⟩]
      refine ⟨by omega, by omega, by omega, by omega, h, fun e' h' => ?_⟩
      unfold cx
      rw [if_pos c1, if_pos ⟨c2.1, c2.2.1, by omega⟩]
      exact h
    · rw [if_neg c2] at h; omega
  · rw [if_neg c1, if_pos hw] at h
    by_cases c2 : (w - 160) / 16 < G 0 0 ∧ w % 16 < e
    · rw [if_pos c2] at h
      have e1 : ns G w = w - 160 := by unfold ns; rw [if_neg c1, if_pos hw]
      have e2 : nd G w = w - 159 := by unfold nd; rw [if_neg c1, if_pos hw, if_neg (by omega)]
      refine ⟨by omega, by omega, by omega, by omega, h, fun e' h' => ?_⟩
      unfold cx
      rw [if_neg c1, if_pos hw, if_pos ⟨c2.1, by omega⟩]
      exact h
    · rw [if_neg c2] at h; omega
/-- what the reference has marked (0) so far can be reached -/
def KI (G : Lay) (B : Nat → Nat) (p : Nat) (g : Nat → Int32) : Prop := (∀ v, v < 96 → g v = -1 ∨ g v = 0) ∧ g (16 * p) = 0 ∧ ∀ e, e ≤ 15 → ∀ X : Nat → Prop, X (16 * p) → (∀ w, w < 256 → X (ns G w) → 0 < cx G B e w → X (nd G w)) → ∀ v, v < 96 → g v = 0 → v % 16 ≤ e → X v
theorem KI_mark {G : Lay} {B : Nat → Nat} {p w : Nat} {g : Nat → Int32} (hB : NB G B) (h : KI G B p g) (hw : w < 256) (hc : 0 < cx G B 15 w) (hs : g (ns G w) = 0) : KI G B p (upd g (nd G w) 0) := by
  obtain ⟨k1, k2, k3, k4, k5, k6⟩ := edge hB (Nat.le_refl 15) hw hc
  refine ⟨fun v hv => ?_, ?_, fun e he X hX hcl v hv hg hve => ?_⟩
  · by_cases c : v = nd G w
    · rw [c, pk_us]; exact Or.inr rfl
    · rw [pk_un c]; exact h.1 v hv
  · by_cases c : 16 * p = nd G w
    · rw [c, pk_us]
    · rw [pk_un c]; exact h.2.1
  · by_cases c : v = nd G w
    · rw [c]
      rw [c] at hve
      exact hcl w hw (h.2.2 e he X hX hcl _ k1 hs (by omega)) (k6 e hve)
    · rw [pk_un c] at hg
      exact h.2.2 e he X hX hcl v hv hg hve
/-- marks are added behind a tick alone -/
def KX (t : Nat) (g g' : Nat → Int32) : Prop := (∀ v, g v = 0 → g' v = 0) ∧ ∀ v, v < 96 → v % 16 ≤ t → g' v = g v
theorem KX.refl (t : Nat) (g : Nat → Int32) : KX t g g := ⟨fun _ h => h, fun _ _ _ => rfl⟩
theorem KX.trans {t : Nat} {g g1 g2 : Nat → Int32} (h : KX t g g1) (h' : KX t g1 g2) : KX t g g2 := ⟨fun v z => h'.1 v (h.1 v z), fun v a b => by rw [h'.2 v a b, h.2 v a b]⟩
theorem KX_mark {t v : Nat} (g : Nat → Int32) (hv : t < v % 16) : KX t g (upd g v 0) := by
  refine ⟨fun u hu => ?_, fun u hu hut => ?_⟩
  · by_cases c : u = v
    · rw [c, pk_us]
    · rw [pk_un c]; exact hu
  · rw [pk_un (fun z => by rw [z] at hut; omega)]
section ALONE
variable {A : Lay} {p : Nat} {M0 : Mm}
theorem al_126 (hB : LB A) (hM : MI (M0 0) A) (k33 : Mm → Int32 → Option (Int32 × Mm)) (k52 : Mm → Int32 → Int32 → Option (Int32 × Mm)) {t q is : Nat} (ht : t < 16) (hq1 : 1 ≤ q) (hq : q < A 0 0) (hi : is ≤ 1) : ∀ (r n k : Nat) (g : Nat → Int32), k + r = A 1 0 → r < n → KI (lyA A p) (BA (lyA A p)) p g → (is = 1 → g (16 * q + t) = 0) → ∃ g', F_X5_alone_126 k33 k52 n (va_up M0 9 g) (nI t) (nI q) (nI is) (nI k) = k52 (va_up M0 9 g') (nI t) (nI (q + 1)) ∧ KI (lyA A p) (BA (lyA A p)) p g' ∧ KX t g g' ∧ (is = 1 → ∀ w, w < 160 → k ≤ w / 16 → ns (lyA A p) w = 16 * q + t → 0 < cx (lyA A p) (BA (lyA A p)) 15 w → g' (nd (lyA A p) w) = 0) := by
  have hm := hB.2.2.1
  have hm2 := hB.2.1
  have hNB := NB_BA (WB_A hB p)
  intro r
  induction r with
  | zero =>
    intro n k g hk hn hK hg
    obtain ⟨n, rfl⟩ : ∃ m, n = m + 1 := ⟨n - 1, by omega⟩
    have ek : k = A 1 0 := by omega
    refine ⟨g, ?_, hK, KX.refl t g, fun _ w hw hkw h1 h2 => ?_⟩
    · show F_X5_aloneB_126 k33 k52 (F_X5_alone_126 k33 k52 n) _ (nI t) (nI q) (nI is) (nI k) = _
      unfold F_X5_aloneB_126
      rw [show (1 : Int32) = nI 1 from rfl, ck_nI (by omega) (by omega), nI_clamp (by omega), va_up_ne _ _ (show (0 : Nat) ≠ 9 by decide), hM.2.1, ek, if_pos (nI_le (Nat.le_refl _) (by omega)), nI_add]
    · exfalso
      unfold cx at h2
      rw [if_pos hw, if_neg (fun z => by have : w / 16 < A 1 0 := z.1; omega)] at h2
      omega
  | succ r ih =>
    intro n k g hk hn hK hg
    obtain ⟨n, rfl⟩ : ∃ m, n = m + 1 := ⟨n - 1, by omega⟩
    have hkm : k < A 1 0 := by omega
    have hb := hB.2.2.2.2 k hkm
    have m0 : (va_up M0 9 g) 0 = M0 0 := va_up_ne _ _ (by decide)
    show ∃ g', F_X5_aloneB_126 k33 k52 (F_X5_alone_126 k33 k52 n) (va_up M0 9 g) (nI t) (nI q) (nI is) (nI k) = _ ∧ _
    unfold F_X5_aloneB_126
    rw [show (1 : Int32) = nI 1 from rfl, ck_nI (by omega) (by omega), nI_clamp (by omega), m0, hM.2.1, if_neg (nI_ge hkm (by omega))]
    rcases (show is = 0 ∨ is = 1 by omega) with rfl | rfl
    · rw [if_pos (show nI 0 = (0 : Int32) from rfl)]
      refine ⟨g, ?_, hK, KX.refl t g, fun z => by omega⟩
      rw [nI_add]
    · have e4 : M0 0 (14 + 6 * k + 0) = nI (A 4 k) := hM.2.2.2 k hkm 0 (by omega)
      have e5 : M0 0 (14 + 6 * k + 1) = nI (A 5 k) := hM.2.2.2 k hkm 1 (by omega)
      have e6 : M0 0 (14 + 6 * k + 2) = nI (A 6 k) := hM.2.2.2 k hkm 2 (by omega)
      have e8 : M0 0 (14 + 6 * k + 4) = nI (A 8 k) := hM.2.2.2 k hkm 4 (by omega)
      have e9 : M0 0 (14 + 6 * k + 5) = nI (A 9 k) := hM.2.2.2 k hkm 5 (by omega)
      have next : ∀ g1 : Nat → Int32, KI (lyA A p) (BA (lyA A p)) p g1 → KX t g g1 → (∀ w, w < 160 → w / 16 = k → ns (lyA A p) w = 16 * q + t → 0 < cx (lyA A p) (BA (lyA A p)) 15 w → g1 (nd (lyA A p) w) = 0) → ∃ g', F_X5_alone_126 k33 k52 n (va_up M0 9 g1) (nI t) (nI q) (nI 1) (nI k + nI 1) = k52 (va_up M0 9 g') (nI t) (nI (q + 1)) ∧ KI (lyA A p) (BA (lyA A p)) p g' ∧ KX t g g' ∧ (1 = 1 → ∀ w, w < 160 → k ≤ w / 16 → ns (lyA A p) w = 16 * q + t → 0 < cx (lyA A p) (BA (lyA A p)) 15 w → g' (nd (lyA A p) w) = 0) := by
        intro g1 h1 h2 h3
        rw [nI_add]
        obtain ⟨g', j1, j2, j3, j4⟩ := ih n (k + 1) g1 (by omega) (by omega) h1 (fun _ => h2.1 _ (hg rfl))
        refine ⟨g', j1, j2, h2.trans j3, fun _ w hw hkw l1 l2 => ?_⟩
        by_cases c : w / 16 = k
        · exact j3.1 _ (h3 w hw c l1 l2)
        · exact j4 rfl w hw (by omega) l1 l2
      -- what an edge of this pipe needs
      have need : ∀ w, w < 160 → w / 16 = k → ns (lyA A p) w = 16 * q + t → 0 < cx (lyA A p) (BA (lyA A p)) 15 w → A 4 k = q ∧ w = 16 * k + t ∧ (A 8 k ≤ t ∧ t ≤ A 9 k) ∧ t + A 6 k ≤ 15 := by
        intro w hw hwk h1 h2
        have hBw := (edge hNB (Nat.le_refl 15) (by omega) h2).2.2.2.2.1
        have h3 : ns (lyA A p) w = 16 * A 4 k + w % 16 := by unfold ns; rw [if_pos hw, hwk, if_pos (show k < lyA A p 1 0 from hkm)]; rfl
        have ew : w = 16 * k + t := by omega
        rw [ew, BA_p (show k < lyA A p 1 0 from hkm) (by omega) ht] at hBw
        have h4 : A 8 k ≤ t ∧ t ≤ A 9 k := by
          by_cases c : lyA A p 8 k ≤ t ∧ t ≤ lyA A p 9 k
          · exact c
          · rw [if_neg c] at hBw; omega
        refine ⟨by omega, ew, h4, ?_⟩
        unfold cx at h2
        rw [if_pos hw, hwk] at h2
        by_cases c : k < lyA A p 1 0 ∧ lyA A p 4 k ≠ 0 ∧ w % 16 + lyA A p 6 k ≤ 15
        · have h5 : w % 16 + A 6 k ≤ 15 := c.2.2
          omega
        · rw [if_neg c] at h2; omega
      rw [if_neg (show ¬ nI 1 = (0 : Int32) by decide), show (0 : Int32) = nI 0 from rfl, show (4 : Int32) = nI 4 from rfl, show (5 : Int32) = nI 5 from rfl, show (2 : Int32) = nI 2 from rfl, pm_pi _ (by omega) (by omega), b1_some, pm_pi _ (by omega) (by omega), b1_some, pm_pi _ (by omega) (by omega), b1_some, pm_pi _ (by omega) (by omega), b1_some, pm_pi _ (by omega) (by omega), b1_some, b1_some, m0, e4, e5, e6, e8, e9, pr_in, b1_some]
      by_cases c1 : A 4 k = q
      · rw [if_pos (by rw [c1])]
        by_cases c2 : A 8 k ≤ t ∧ t ≤ A 9 k
        · rw [if_pos (show nI (A 8 k) ≤ nI t ∧ nI t ≤ nI (A 9 k) from ⟨nI_le c2.1 (by omega), nI_le c2.2 (by omega)⟩), if_neg (show ¬ (1 : Int32) = nI 0 by decide), nI_add]
          by_cases c3 : 16 ≤ t + A 6 k
          · rw [if_pos (show (16 : Int32) ≤ nI (t + A 6 k) from nI_le (a := 16) c3 (by omega))]
            exact next g hK (KX.refl t g) (fun w hw hwk h1 h2 => by have := need w hw hwk h1 h2; omega)
          · rw [if_neg (show ¬ (16 : Int32) ≤ nI (t + A 6 k) from nI_ge (b := 16) (by omega) (by omega)), show (16 : Int32) = nI 16 from rfl, pk_mul, nI_add, nI_add, ck_nI (by omega) (by omega), sv_eq, nI_clamp (by omega), bx_uu, va_up_self]
            have hn : ns (lyA A p) (16 * k + t) = 16 * q + t := by
              unfold ns
              rw [if_pos (by omega), show (16 * k + t) / 16 = k by omega, if_pos (show k < lyA A p 1 0 from hkm), show (16 * k + t) % 16 = t by omega]
              show 16 * A 4 k + t = _
              rw [c1]
            have hd : nd (lyA A p) (16 * k + t) = 16 * A 5 k + t + A 6 k := by
              unfold nd
              rw [if_pos (by omega), show (16 * k + t) / 16 = k by omega, show (16 * k + t) % 16 = t by omega, if_pos (show k < lyA A p 1 0 ∧ t + lyA A p 6 k < 16 from ⟨hkm, by show t + A 6 k < 16; omega⟩)]
              show 16 * A 5 k + (t + A 6 k) = _
              omega
            have hcx : 0 < cx (lyA A p) (BA (lyA A p)) 15 (16 * k + t) := by
              unfold cx
              rw [if_pos (by omega), show (16 * k + t) / 16 = k by omega, show (16 * k + t) % 16 = t by omega, if_pos (show k < lyA A p 1 0 ∧ lyA A p 4 k ≠ 0 ∧ t + lyA A p 6 k ≤ 15 from ⟨hkm, by show A 4 k ≠ 0; omega, by show t + A 6 k ≤ 15; omega⟩), BA_p (show k < lyA A p 1 0 from hkm) (by omega) ht, if_pos (show lyA A p 8 k ≤ t ∧ t ≤ lyA A p 9 k from c2)]
              show 0 < A 7 k
              omega
            have hK1 := KI_mark hNB hK (by omega) hcx (by rw [hn]; exact hg rfl)
            rw [hd] at hK1
            exact next _ hK1 (KX_mark g (by omega)) (fun w hw hwk h1 h2 => by
              have hw2 := (need w hw hwk h1 h2).2.1
              rw [hw2, hd, pk_us]; rfl)
        · rw [if_neg (show ¬ (nI (A 8 k) ≤ nI t ∧ nI t ≤ nI (A 9 k)) from fun z => c2 ⟨(nI_leI (by omega) (by omega)).mp z.1, (nI_leI (by omega) (by omega)).mp z.2⟩), if_pos (show (0 : Int32) = nI 0 from rfl)]
          exact next g hK (KX.refl t g) (fun w hw hwk h1 h2 => absurd (need w hw hwk h1 h2).2.2.1 c2)
      · rw [if_neg (fun z => c1 ((nI_eq (by omega) (by omega)).mp z))]
        exact next g hK (KX.refl t g) (fun w hw hwk h1 h2 => absurd (need w hw hwk h1 h2).1 c1)
theorem al_81 (hB : LB A) (hM : MI (M0 0) A) (k33 : Mm → Int32 → Option (Int32 × Mm)) (k52 : Mm → Int32 → Int32 → Option (Int32 × Mm)) {t q is : Nat} (ht : t < 16) (hq1 : 1 ≤ q) (hq : q < A 0 0) (hi : is ≤ 1) {g : Nat → Int32} (hK : KI (lyA A p) (BA (lyA A p)) p g) (hg : is = 1 → g (16 * q + t) = 0) : ∃ g', F_X5_alone_81 k33 k52 (va_up M0 9 g) (nI t) (nI q) (nI is) = k52 (va_up M0 9 g') (nI t) (nI (q + 1)) ∧ KI (lyA A p) (BA (lyA A p)) p g' ∧ KX t g g' ∧ (is = 1 → ∀ w, w < 256 → ns (lyA A p) w = 16 * q + t → 0 < cx (lyA A p) (BA (lyA A p)) 15 w → g' (nd (lyA A p) w) = 0) := by
  have hm := hB.2.2.1
  have hm2 := hB.2.1
  have hNB := NB_BA (WB_A hB p)
  have hw_need : ∀ w, 160 ≤ w → w < 256 → ns (lyA A p) w = 16 * q + t → 0 < cx (lyA A p) (BA (lyA A p)) 15 w → w = 160 + 16 * q + t ∧ t < 15 ∧ 0 < A 3 q := by
    intro w h1 h2 h3 h4
    have hBw := (edge hNB (Nat.le_refl 15) h2 h4).2.2.2.2.1
    have e1 : ns (lyA A p) w = w - 160 := by unfold ns; rw [if_neg (by omega), if_pos h2]
    have ew : w = 160 + 16 * q + t := by omega
    rw [ew, BA_w (show q < lyA A p 0 0 from hq) hq1 (by omega) ht] at hBw
    refine ⟨ew, ?_, hBw⟩
    unfold cx at h4
    rw [if_neg (by omega), if_pos h2] at h4
    by_cases c : (w - 160) / 16 < lyA A p 0 0 ∧ w % 16 < 15
    · omega
    · rw [if_neg c] at h4; omega
  have next : ∀ g1 : Nat → Int32, KI (lyA A p) (BA (lyA A p)) p g1 → KX t g g1 → (is = 1 → ∀ w, 160 ≤ w → w < 256 → ns (lyA A p) w = 16 * q + t → 0 < cx (lyA A p) (BA (lyA A p)) 15 w → g1 (nd (lyA A p) w) = 0) → ∃ g', F_X5_alone_126 k33 k52 FU (va_up M0 9 g1) (nI t) (nI q) (nI is) (nI 0) = k52 (va_up M0 9 g') (nI t) (nI (q + 1)) ∧ KI (lyA A p) (BA (lyA A p)) p g' ∧ KX t g g' ∧ (is = 1 → ∀ w, w < 256 → ns (lyA A p) w = 16 * q + t → 0 < cx (lyA A p) (BA (lyA A p)) 15 w → g' (nd (lyA A p) w) = 0) := by
    intro g1 h1 h2 h3
    obtain ⟨g', j1, j2, j3, j4⟩ := al_126 hB hM k33 k52 ht hq1 hq hi (A 1 0) FU 0 g1 (by omega) (by rw [FU_eq]; omega) h1 (fun z => h2.1 _ (hg z))
    refine ⟨g', j1, j2, h2.trans j3, fun z w hw l1 l2 => ?_⟩
    by_cases c : w < 160
    · exact j4 z w c (Nat.zero_le _) l1 l2
    · exact j3.1 _ (h3 z w (by omega) hw l1 l2)
  unfold F_X5_alone_81
  rcases (show is = 0 ∨ is = 1 by omega) with rfl | rfl
  · rw [if_pos (show nI 0 = (0 : Int32) from rfl)]
    exact next g hK (KX.refl t g) (fun z => by omega)
  · rw [if_neg (show ¬ nI 1 = (0 : Int32) by decide)]
    by_cases c1 : 15 ≤ t
    · rw [if_pos (show (15 : Int32) ≤ nI t from nI_le (a := 15) c1 (by omega))]
      exact next g hK (KX.refl t g) (fun _ w h1 h2 h3 h4 => by have := hw_need w h1 h2 h3 h4; omega)
    · have hu := hB.2.2.2.1 q hq
      rw [if_neg (show ¬ (15 : Int32) ≤ nI t from nI_ge (b := 15) (by omega) (by omega)), show (2 : Int32) = nI 2 from rfl, pk_mul, nI_add, show (1 : Int32) = nI 1 from rfl, nI_add, ck_nI (by omega) (by omega), nI_clamp (by omega), va_up_ne _ _ (show (0 : Nat) ≠ 9 by decide), (hM.2.2.1 q hq).2]
      by_cases c2 : A 3 q = 0
      · rw [if_pos (by rw [c2]; decide)]
        exact next g hK (KX.refl t g) (fun _ w h1 h2 h3 h4 => by have := hw_need w h1 h2 h3 h4; omega)
      · rw [if_neg (nI_nle (by omega) (by omega)), show (16 : Int32) = nI 16 from rfl, pk_mul, nI_add, nI_add, ck_nI (by omega) (by omega), sv_eq, nI_clamp (by omega), bx_uu, va_up_self]
        have hn : ns (lyA A p) (160 + 16 * q + t) = 16 * q + t := by unfold ns; rw [if_neg (by omega), if_pos (by omega)]; omega
        have hd : nd (lyA A p) (160 + 16 * q + t) = 16 * q + t + 1 := by unfold nd; rw [if_neg (by omega), if_pos (by omega), if_neg (by omega)]; omega
        have hcx : 0 < cx (lyA A p) (BA (lyA A p)) 15 (160 + 16 * q + t) := by
          unfold cx
          rw [if_neg (by omega), if_pos (by omega), if_pos (show (160 + 16 * q + t - 160) / 16 < lyA A p 0 0 ∧ (160 + 16 * q + t) % 16 < 15 from ⟨by show _ < A 0 0; omega, by omega⟩), BA_w (show q < lyA A p 0 0 from hq) hq1 (by omega) ht]
          show 0 < A 3 q
          omega
        have hK1 := KI_mark hNB hK (by omega) hcx (by rw [hn]; exact hg rfl)
        rw [hd] at hK1
        exact next _ hK1 (KX_mark g (by omega)) (fun _ w h1 h2 h3 h4 => by
          have hw2 := (hw_need w h1 h2 h3 h4).1
          rw [hw2, hd, pk_us])
theorem al_52 (hB : LB A) (hM : MI (M0 0) A) (k33 : Mm → Int32 → Option (Int32 × Mm)) {t : Nat} (ht : t < 16) : ∀ (r n q : Nat) (g : Nat → Int32), q + r = A 0 0 → r < n → 1 ≤ q → KI (lyA A p) (BA (lyA A p)) p g → ∃ g', F_X5_alone_52 k33 n (va_up M0 9 g) (nI t) (nI q) = k33 (va_up M0 9 g') (nI (t + 1)) ∧ KI (lyA A p) (BA (lyA A p)) p g' ∧ KX t g g' ∧ ∀ q', q ≤ q' → q' < A 0 0 → g (16 * q' + t) = 0 → ∀ w, w < 256 → ns (lyA A p) w = 16 * q' + t → 0 < cx (lyA A p) (BA (lyA A p)) 15 w → g' (nd (lyA A p) w) = 0 := by
  have hm := hB.2.2.1
  have hm2 := hB.2.1
  intro r
  induction r with
  | zero =>
    intro n q g hq hn hq1 hK
    obtain ⟨n, rfl⟩ : ∃ m, n = m + 1 := ⟨n - 1, by omega⟩
    have eq : q = A 0 0 := by omega
    refine ⟨g, ?_, hK, KX.refl t g, fun q' h1 h2 => by omega⟩
    show F_X5_aloneB_52 k33 (F_X5_alone_52 k33 n) _ (nI t) (nI q) = _
    unfold F_X5_aloneB_52
    rw [show (0 : Int32) = nI 0 from rfl, ck_nI (by omega) (by omega), nI_clamp (by omega), va_up_ne _ _ (show (0 : Nat) ≠ 9 by decide), hM.1, eq, if_pos (nI_le (Nat.le_refl _) (by omega)), nI_succ]
  | succ r ih =>
    intro n q g hq hn hq1 hK
    obtain ⟨n, rfl⟩ : ∃ m, n = m + 1 := ⟨n - 1, by omega⟩
    have hqm : q < A 0 0 := by omega
    show ∃ g', F_X5_aloneB_52 k33 (F_X5_alone_52 k33 n) (va_up M0 9 g) (nI t) (nI q) = _ ∧ _
    unfold F_X5_aloneB_52
    rw [show (0 : Int32) = nI 0 from rfl, ck_nI (by omega) (by omega), nI_clamp (by omega), va_up_ne _ _ (show (0 : Nat) ≠ 9 by decide), hM.1, if_neg (nI_ge hqm (by omega)), show (16 : Int32) = nI 16 from rfl, pk_mul, nI_add, ck_nI (by omega) (by omega), nI_clamp (by omega), va_up_self]
    have fin : ∀ is : Nat, is ≤ 1 → (is = 1 ↔ g (16 * q + t) = 0) → ∃ g', F_X5_alone_81 k33 (F_X5_alone_52 k33 n) (va_up M0 9 g) (nI t) (nI q) (nI is) = k33 (va_up M0 9 g') (nI (t + 1)) ∧ KI (lyA A p) (BA (lyA A p)) p g' ∧ KX t g g' ∧ ∀ q', q ≤ q' → q' < A 0 0 → g (16 * q' + t) = 0 → ∀ w, w < 256 → ns (lyA A p) w = 16 * q' + t → 0 < cx (lyA A p) (BA (lyA A p)) 15 w → g' (nd (lyA A p) w) = 0 := by
      intro is hi his
      obtain ⟨g1, a1, a2, a3, a4⟩ := al_81 hB hM k33 (F_X5_alone_52 k33 n) ht hq1 hqm hi hK his.mp
      obtain ⟨g', j1, j2, j3, j4⟩ := ih n (q + 1) g1 (by omega) (by omega) (by omega) a2
      refine ⟨g', by rw [a1, j1], j2, a3.trans j3, fun q' h1 h2 h3 w hw l1 l2 => ?_⟩
      by_cases c : q' = q
      · rw [c] at h3 l1
        exact j3.1 _ (a4 (his.mpr h3) w hw l1 l2)
      · exact j4 q' (by omega) h2 (by rw [a3.2 _ (by omega) (by omega)]; exact h3) w hw l1 l2
    rcases hK.1 (16 * q + t) (by omega) with e | e
    · rw [e, if_pos (show (-1 : Int32) < nI 0 by decide)]
      exact fin 0 (by omega) ⟨fun z => by omega, fun z => by rw [e] at z; exact absurd z (by decide)⟩
    · rw [e, if_neg (show ¬ (0 : Int32) < nI 0 by decide)]
      exact fin 1 (by omega) ⟨fun _ => e, fun _ => rfl⟩
/-- what is there, and all that it leads to, up to a tick -/
def KD (G : Lay) (B : Nat → Nat) (t : Nat) (g : Nat → Int32) : Prop := ∀ v, 16 ≤ v → v < 96 → v % 16 < t → g v = 0 → ∀ w, w < 256 → ns G w = v → 0 < cx G B 15 w → g (nd G w) = 0
theorem al_V (hB : LB A) {t V q : Nat} {f : Nat → Nat} {T : Lay} {g : Nat → Int32} (hp : p < A 0 0) (ht : t ≤ 15) (hE : Fe (lyA A p) (BA (lyA A p)) t f) (hF : FIN (lyA A p) (BA (lyA A p)) t f q T) (hv : dv (ns (lyA A p)) (nd (lyA A p)) (fv f) 120 = ((V : Nat) : Int)) (hK : KI (lyA A p) (BA (lyA A p)) p g) (hD : KD (lyA A p) (BA (lyA A p)) t g) (hX : ∀ s, s < t → ¬ g s = 0) : 1 ≤ V ↔ g t = 0 := by
  have hm2 := hB.2.1
  have hNB := NB_BA (WB_A hB p)
  have hs := fun e (he : e < 262) => ns_lt hNB he
  have hd := fun e (he : e < 262) => nd_lt hNB he
  refine ⟨fun h1 => ?_, fun h1 => ?_⟩
  · by_cases c : g t = 0
    · exact c
    · exfalso
      have hC : Cut Nn (fun v => v = 120 ∨ (16 ≤ v ∧ v < 96 ∧ g v = 0 ∧ v % 16 ≤ t)) := ⟨Or.inl rfl, fun v hv => by
        rcases hv with hv | hv
        · exact Or.inl hv
        · exact Or.inr ⟨by omega, hv.1, hv.2.1⟩⟩
      have h2 : dv (ns (lyA A p)) (nd (lyA A p)) (fv f) 120 ≤ cc_ (ns (lyA A p)) (nd (lyA A p)) (cI_ (lyA A p) (BA (lyA A p)) t) (fun v => v = 120 ∨ (16 ≤ v ∧ v < 96 ∧ g v = 0 ∧ v % 16 ≤ t)) := val_le hs hd hC hE.fea
      have ex : ∀ s, s ≤ t → ¬ g s = 0 := by
        intro s hs'
        by_cases e : s = t
        · rw [e]; exact c
        · exact hX s (by omega)
      have key : ∀ e, e < 262 → (ns (lyA A p) e = 120 ∨ (16 ≤ ns (lyA A p) e ∧ ns (lyA A p) e < 96 ∧ g (ns (lyA A p) e) = 0 ∧ ns (lyA A p) e % 16 ≤ t)) → ¬ (nd (lyA A p) e = 120 ∨ (16 ≤ nd (lyA A p) e ∧ nd (lyA A p) e < 96 ∧ g (nd (lyA A p) e) = 0 ∧ nd (lyA A p) e % 16 ≤ t)) → cx (lyA A p) (BA (lyA A p)) t e = 0 := by
        intro e he ha hb
        by_cases z : cx (lyA A p) (BA (lyA A p)) t e = 0
        · exact z
        · exfalso
          by_cases c6 : e < 256
          · obtain ⟨k1, k2, k3, k4, k5, k6⟩ := edge hNB ht c6 (by omega)
            rcases ha with ha | ⟨a1, a2, a3, a4⟩
            · omega
            · have hg := hD _ a1 a2 (by omega) a3 e c6 rfl (k6 15 (by omega))
              by_cases c16 : 16 ≤ nd (lyA A p) e
              · exact hb (Or.inr ⟨c16, k2, hg, k4⟩)
              · exact ex (nd (lyA A p) e) (by omega) hg
          · have h3 : 0 < BA (lyA A p) e := by
              have := cx_le (G := lyA A p) (B := BA (lyA A p)) (en := t) (e := e)
              omega
            have hq : e - 256 < A 0 0 ∧ e - 256 = p := by
              unfold cx at z
              rw [if_neg (by omega), if_neg c6] at z
              by_cases y : e - 256 < lyA A p 0 0
              · have y' : e - 256 < A 0 0 := y
                refine ⟨y', ?_⟩
                have e2 : BA (lyA A p) e = lyA A p 2 (e - 256) := by
                  have := BA_o (A := lyA A p) y
                  rw [show 256 + (e - 256) = e by omega] at this
                  exact this
                rw [e2, lyA_2] at h3
                by_cases x : e - 256 = p
                · exact x
                · rw [if_neg x] at h3; omega
              · rw [if_neg y] at z; exact absurd rfl z
            have hnd : nd (lyA A p) e = 16 * p := by unfold nd; rw [if_neg (by omega), if_neg c6, hq.2]
            rw [hnd] at hb
            by_cases p0 : p = 0
            · have := hK.2.1
              rw [p0] at this
              exact ex 0 (Nat.zero_le _) this
            · exact hb (Or.inr ⟨by omega, by omega, hK.2.1, by omega⟩)
      have h3 : cc_ (ns (lyA A p)) (nd (lyA A p)) (cI_ (lyA A p) (BA (lyA A p)) t) (fun v => v = 120 ∨ (16 ≤ v ∧ v < 96 ∧ g v = 0 ∧ v % 16 ≤ t)) ≤ sm 262 (fun _ => 0) := by
        unfold cc_
        refine sm_le (fun e he => ?_)
        by_cases ha : (ns (lyA A p) e = 120 ∨ (16 ≤ ns (lyA A p) e ∧ ns (lyA A p) e < 96 ∧ g (ns (lyA A p) e) = 0 ∧ ns (lyA A p) e % 16 ≤ t))
        · by_cases hb : (nd (lyA A p) e = 120 ∨ (16 ≤ nd (lyA A p) e ∧ nd (lyA A p) e < 96 ∧ g (nd (lyA A p) e) = 0 ∧ nd (lyA A p) e % 16 ≤ t))
          · rw [ic_1 (S := fun v => v = 120 ∨ (16 ≤ v ∧ v < 96 ∧ g v = 0 ∧ v % 16 ≤ t)) (v := nd (lyA A p) e) hb]
            simp
          · have k0 : cI_ (lyA A p) (BA (lyA A p)) t e = 0 := by
              show ((cx (lyA A p) (BA (lyA A p)) t e : Nat) : Int) = 0
              rw [key e he ha hb]; rfl
            rw [k0]; simp
        · rw [ic_0 (S := fun v => v = 120 ∨ (16 ≤ v ∧ v < 96 ∧ g v = 0 ∧ v % 16 ≤ t)) (v := ns (lyA A p) e) ha]
          simp
      rw [sm_0] at h3
      omega
  · by_cases c : 1 ≤ V
    · exact c
    · exfalso
      have h3 := val_tig hs hd hF.cut hE.fea.2 (hF.tig hE)
      have hz : sm 262 (fun _ => 0) = cc_ (ns (lyA A p)) (nd (lyA A p)) (cI_ (lyA A p) (BA (lyA A p)) t) (RE q T) := by rw [sm_0, ← h3, hv]; omega
      have hcl : ∀ e, e < 262 → RE q T (ns (lyA A p) e) → 0 < cx (lyA A p) (BA (lyA A p)) t e → RE q T (nd (lyA A p) e) := by
        intro e he ha hc
        by_cases hb : RE q T (nd (lyA A p) e)
        · exact hb
        · exfalso
          have hterm := sm_eq_le (g := fun _ => 0) (h := fun e => cI_ (lyA A p) (BA (lyA A p)) t e * (ic (RE q T) (ns (lyA A p) e) * (1 - ic (RE q T) (nd (lyA A p) e)))) (fun i hi => by
            have hnn : (0 : Int) ≤ cI_ (lyA A p) (BA (lyA A p)) t i := by show (0 : Int) ≤ ((cx (lyA A p) (BA (lyA A p)) t i : Nat) : Int); omega
            have := term_le (S := RE q T) (a := ns (lyA A p) i) (b := nd (lyA A p) i) (Int.le_refl 0) hnn
            rw [Int.zero_mul] at this
            exact this) hz e he
          have hterm2 : (0 : Int) = cI_ (lyA A p) (BA (lyA A p)) t e * (ic (RE q T) (ns (lyA A p) e) * (1 - ic (RE q T) (nd (lyA A p) e))) := hterm
          rw [ic_1 ha, ic_0 hb] at hterm2
          have k0 : cI_ (lyA A p) (BA (lyA A p)) t e = ((cx (lyA A p) (BA (lyA A p)) t e : Nat) : Int) := rfl
          rw [k0] at hterm2
          simp at hterm2
          omega
      have hX0 : RE q T (16 * p) := by
        have e1 : ns (lyA A p) (256 + p) = 120 := by unfold ns; rw [if_neg (by omega), if_neg (by omega)]
        have e2 : nd (lyA A p) (256 + p) = 16 * p := by unfold nd; rw [if_neg (by omega), if_neg (by omega)]; omega
        have e3 : cx (lyA A p) (BA (lyA A p)) t (256 + p) = 1 := by
          unfold cx
          rw [if_neg (by omega), if_neg (by omega), if_pos (show 256 + p - 256 < lyA A p 0 0 by show _ < A 0 0; omega), BA_o (show p < lyA A p 0 0 from hp), lyA_2, if_pos rfl]
        have := hcl (256 + p) (by omega) (by rw [e1]; exact Or.inl rfl) (by omega)
        rw [e2] at this
        exact this
      have := hK.2.2 t ht (RE q T) hX0 (fun w hw h1 h2 => hcl w (by omega) h1 h2) t (by omega) h1 (by omega)
      rcases this with y | ⟨i, y1, y2⟩
      · omega
      · have := hF.2.1 i y1; omega
theorem al_33 (hB : LB A) (hM : MI (M0 0) A) (hp : p < A 0 0) {N : Mm} (hL : LI N (lyA A p)) : ∀ (r n n2 t V : Nat) (S : Mm) (f : Nat → Nat) (g : Nat → Int32), t + r = 16 → r < n → r < n2 → V ≤ 1621 → Fe (lyA A p) (BA (lyA A p)) t f → dv (ns (lyA A p)) (nd (lyA A p)) (fv f) 120 = ((V : Nat) : Int) → LF (S 0) (lyA A p) (BA (lyA A p)) f → f 256 = BA (lyA A p) 256 → KI (lyA A p) (BA (lyA A p)) p g → KD (lyA A p) (BA (lyA A p)) t g → (∀ s, s < t → ¬ g s = 0) → ∃ (x : Int32) (S' : Mm) (g' : Nat → Int32), F_X3_leastTickFor_16 n S N (nI 1) (nI V) (nI t) = some (x, S') ∧ F_X5_alone_33 n2 (va_up M0 9 g) (nI t) = some (x, va_up M0 9 g') := by
  have hm2 := hB.2.1
  have hWB := WB_A hB p
  have hNB := NB_BA hWB
  intro r
  induction r with
  | zero =>
    intro n n2 t V S f g ht hn hn2 hV hE hv hF h0 hK hD hX
    obtain ⟨n, rfl⟩ : ∃ m, n = m + 1 := ⟨n - 1, by omega⟩
    obtain ⟨n2, rfl⟩ : ∃ m, n2 = m + 1 := ⟨n2 - 1, by omega⟩
    have e : t = 16 := by omega
    show ∃ x S' g', F_X3_leastTickForB_16 (F_X3_leastTickFor_16 n) S N (nI 1) (nI V) (nI t) = _ ∧ F_X5_aloneB_33 (F_X5_alone_33 n2) _ (nI t) = _
    unfold F_X3_leastTickForB_16 F_X5_aloneB_33
    rw [e, if_pos (by decide), if_pos (by decide)]
    exact ⟨_, _, g, rfl, rfl⟩
  | succ r ih =>
    intro n n2 t V S f g ht hn hn2 hV hE hv hF h0 hK hD hX
    obtain ⟨n, rfl⟩ : ∃ m, n = m + 1 := ⟨n - 1, by omega⟩
    obtain ⟨n2, rfl⟩ : ∃ m, n2 = m + 1 := ⟨n2 - 1, by omega⟩
    show ∃ x S' g', F_X3_leastTickForB_16 (F_X3_leastTickFor_16 n) S N (nI 1) (nI V) (nI t) = _ ∧ F_X5_aloneB_33 (F_X5_alone_33 n2) _ (nI t) = _
    unfold F_X3_leastTickForB_16 F_X5_aloneB_33
    have g16 : ¬ (16 : Int32) ≤ nI t := nI_ge (b := 16) (by omega) (by omega)
    obtain ⟨V', S', f', q, T, a1, a2, a3, a4, a5, a6, a7, a8, a9⟩ := pc_moreBy (NC_BA hL hWB) hNB (en := t) (by omega) hE hv hF h0
    have hiff := al_V hB hp (by omega) a4 a8 a5 hK hD hX
    rw [if_neg g16, if_neg g16, a1, b2_some, nI_add, show V + (V' - V) = V' by omega, ck_nI (by omega) (by omega), nI_clamp (by omega), va_up_self]
    by_cases c : g t = 0
    · have hV1 := hiff.mpr c
      rw [if_neg (nI_nlt (by omega) (by omega)), c, if_neg (by decide)]
      exact ⟨_, _, g, rfl, rfl⟩
    · have hV0 : V' < 1 := by
        by_cases z : V' < 1
        · exact z
        · exact absurd (hiff.mp (by omega)) c
      have e1 : g t = -1 := (hK.1 t (by omega)).resolve_right c
      rw [if_pos (nI_lt hV0 (by omega)), e1, if_pos (by decide), ← nI_succ]
      obtain ⟨g1, j1, j2, j3, j4⟩ := al_52 hB hM (F_X5_alone_33 n2) (t := t) (by omega) (A 0 0 - 1) FU 1 g (by have := hB.1; omega) (by rw [FU_eq]; omega) (Nat.le_refl 1) hK
      rw [show (1 : Int32) = nI 1 from rfl, j1]
      refine ih n n2 (t + 1) V' S' f' g1 (by omega) (by omega) (by omega) a3 (a4.mono (by omega)) a5 a6 a7 j2 ?_ ?_
      · intro v h1 h2 h3 h4 w hw h5 h6
        by_cases y : v % 16 = t
        · have hvA : v / 16 < A 0 0 := by
            by_cases x : w < 160
            · have hk : w / 16 < A 1 0 := by
                unfold cx at h6
                rw [if_pos x] at h6
                by_cases u : w / 16 < lyA A p 1 0 ∧ lyA A p 4 (w / 16) ≠ 0 ∧ w % 16 + lyA A p 6 (w / 16) ≤ 15
                · exact u.1
                · rw [if_neg u] at h6; omega
              have h7 : ns (lyA A p) w = 16 * A 4 (w / 16) + w % 16 := by unfold ns; rw [if_pos x, if_pos (show w / 16 < lyA A p 1 0 from hk)]; rfl
              have := (hB.2.2.2.2 _ hk).1
              omega
            · have h7 : ns (lyA A p) w = w - 160 := by unfold ns; rw [if_neg x, if_pos hw]
              unfold cx at h6
              rw [if_neg x, if_pos hw] at h6
              by_cases u : (w - 160) / 16 < lyA A p 0 0 ∧ w % 16 < 15
              · have u1 : (w - 160) / 16 < A 0 0 := u.1
                omega
              · rw [if_neg u] at h6; omega
          have hg : g v = 0 := by rw [← j3.2 v h2 (by omega)]; exact h4
          exact j4 (v / 16) (by omega) hvA (by rw [show 16 * (v / 16) + t = v by omega]; exact hg) w hw (by rw [h5]; omega) h6
        · have hg : g v = 0 := by rw [← j3.2 v h2 (by omega)]; exact h4
          exact j3.1 _ (hD v h1 h2 (by omega) hg w hw h5 h6)
      · intro s hs
        rw [j3.2 s (by omega) (by omega)]
        by_cases y : s = t
        · rw [y]; exact c
        · exact hX s (by omega)
theorem al_2 : ∀ (r n k : Nat) (g : Nat → Int32), p < 6 → k + r = 96 → r < n → (∀ j, j < k → g j = -1) → ∃ g', F_X5_alone_2 n (va_up M0 9 g) (nI p) (nI k) = F_X5_alone_33 FU (va_up M0 9 g') (nI 0) ∧ g' (16 * p) = 0 ∧ ∀ j, j < 96 → j ≠ 16 * p → g' j = -1 := by
  intro r
  induction r with
  | zero =>
    intro n k g hp hk hn hg
    obtain ⟨n, rfl⟩ : ∃ m, n = m + 1 := ⟨n - 1, by omega⟩
    have ek : k = 96 := by omega
    refine ⟨upd g (16 * p) 0, ?_, pk_us, fun j hj hjp => by rw [pk_un hjp]; exact hg j (by omega)⟩
    show F_X5_aloneB_2 (F_X5_alone_2 n) _ (nI p) (nI k) = _
    unfold F_X5_aloneB_2
    rw [ek, if_pos (by decide), show (16 : Int32) = nI 16 from rfl, pk_mul, ck_nI (by omega) (by omega), sv_eq, nI_clamp (by omega), bx_uu, va_up_self]
    rfl
  | succ r ih =>
    intro n k g hp hk hn hg
    obtain ⟨n, rfl⟩ : ∃ m, n = m + 1 := ⟨n - 1, by omega⟩
    obtain ⟨g', j1, j2, j3⟩ := ih n (k + 1) (upd g k (-1)) hp (by omega) (by omega) (fun j hj => by
      by_cases c : j = k
      · rw [c, pk_us]
      · rw [pk_un c]; exact hg j (by omega))
    refine ⟨g', ?_, j2, j3⟩
    show F_X5_aloneB_2 (F_X5_alone_2 n) _ (nI p) (nI k) = _
    unfold F_X5_aloneB_2
    rw [if_neg (show ¬ (96 : Int32) ≤ nI k from nI_ge (b := 96) (by omega) (by omega)), ck_nI (by omega) (by omega), sv_eq, nI_clamp (by omega), bx_uu, va_up_self, ← nI_succ, j1]
end ALONE
