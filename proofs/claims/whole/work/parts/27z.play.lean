/-! PURE PART: a whole setting, the whole text; fault, play. -/
theorem pm_93_ok {M : Mm} {κ w : Nat} (hw : w ≤ 4) : ∀ (r n q : Nat), q + r = w → r < n → (∀ q', q ≤ q' → q' < w → F_X5_isRight M (nI κ) (nI q') = some 1) → F_X5_doesNext_93 n M (nI κ) (nI w) (nI q) = b2 (F_X5_does (va_up M 12 (upd (M 12) 4 (-1000004 : Int32))) (nI κ)) fun u4 M5 => if u4 = (-1000003 : Int32) then some ((3 : Int32), M5) else some ((0 : Int32), M5)
  | r, 0, q, _, h, _ => by omega
  | 0, n + 1, q, hq, h, hr => by
    show F_X5_doesNextB_93 (F_X5_doesNext_93 n) M (nI κ) (nI w) (nI q) = _
    unfold F_X5_doesNextB_93
    rw [show q = w by omega, if_pos (nI_le (Nat.le_refl _) (by omega)), sv_eq]
  | r + 1, n + 1, q, hq, h, hr => by
    show F_X5_doesNextB_93 (F_X5_doesNext_93 n) M (nI κ) (nI w) (nI q) = _
    unfold F_X5_doesNextB_93
    rw [if_neg (nI_ge (show q < w by omega) (by omega)), hr q (Nat.le_refl _) (by omega), b1_some, if_neg (by decide), ← nI_succ]
    exact pm_93_ok hw r n (q + 1) (by omega) (by omega) (fun q' h1 h2 => hr q' (by omega) h2)
theorem pm_93_bad {M : Mm} {κ w b : Nat} (hw : w ≤ 4) (hb : b < w) (h0 : F_X5_isRight M (nI κ) (nI b) = some 0) : ∀ (r n q : Nat), q + r = b → r < n → (∀ q', q ≤ q' → q' < b → F_X5_isRight M (nI κ) (nI q') = some 1) → F_X5_doesNext_93 n M (nI κ) (nI w) (nI q) = some ((2 : Int32), va_up M 12 (upd (M 12) 4 (nI b)))
  | r, 0, q, _, h, _ => by omega
  | 0, n + 1, q, hq, h, hr => by
    show F_X5_doesNextB_93 (F_X5_doesNext_93 n) M (nI κ) (nI w) (nI q) = _
    unfold F_X5_doesNextB_93
    rw [show q = b by omega, if_neg (nI_ge hb (by omega)), h0, b1_some, if_pos rfl, sv_eq]
  | r + 1, n + 1, q, hq, h, hr => by
    show F_X5_doesNextB_93 (F_X5_doesNext_93 n) M (nI κ) (nI w) (nI q) = _
    unfold F_X5_doesNextB_93
    rw [if_neg (nI_ge (show q < w by omega) (by omega)), hr q (Nat.le_refl _) (by omega), b1_some, if_neg (by decide), ← nI_succ]
    exact pm_93_bad hw hb h0 r n (q + 1) (by omega) (by omega) (fun q' h1 h2 => hr q' (by omega) h2)
/-- what one setting makes of both sides -/
def SO (A : Lay) (len i : Nat) (T R M T' R' M' : Mm) : Prop := T' 0 = T 0 ∧ T' 2 0 = T 2 0 ∧ (∀ q, q ≠ 0 → q ≠ 5 → q ≠ 12 → M' q = M q) ∧ (∀ q, q ≠ 2 → q ≠ 4 → M' 12 q = M 12 q) ∧ ((F_X5_doesNext M = some (0, M') ∧ T' 2 3 = T 2 3 ∧ T' 2 5 = T 2 5 + 1 ∧ ∃ i' A', i < i' ∧ i' ≤ len ∧ T' 2 1 = nI i' ∧ M' 12 2 = nI i' ∧ LB A' ∧ LI R' A' ∧ MI (M' 0) A') ∨ (∃ ρ, 1 ≤ ρ ∧ ρ ≤ 3 ∧ F_X5_doesNext M = some (nI ρ, M') ∧ T' 2 3 = nI ρ ∧ T' 2 2 = nI i ∧ (ρ ≠ 3 → T' 2 4 = M' 12 4) ∧ (ρ = 3 → M' 12 4 = (-1000004 : Int32))))
theorem setting_w {T R M : Mm} {A : Lay} {len i κ w : Nat} {c : Nat → Nat} (hM : MI (M 0) A) (hT : CT T len c) (hR : RT M len c) (hat : T 2 1 = nI i) (hat2 : M 12 2 = nI i) (hi : i < len) (hc : c i = κ) (hw : 1 ≤ w) (hw4 : w ≤ 4) (hk : F_X2_numbersOf (nI κ) = some (nI w)) (hd : F_X5_doesNext M = F_X5_doesNext_47 M (nI i) (nI κ) (nI w)) (hHE : ∀ T5 M5 : Mm, MI (M5 0) A → (∀ q, q < w → ∃ v, v ≤ 99 ∧ T5 1 q = nI v ∧ M5 5 q = nI v) → HE R A κ w T5 M5) : ∃ T' R' M', F_X2_readSetting T R = some (T', R') ∧ SO A len i T R M T' R' M' := by
  have h60 := hT.2.1
  unfold SO
  rw [hd]
  unfold F_X2_readSetting F_X2_readForm F_X5_doesNext_47 F_X5_doesNext_62 F_X5_reads
  have hX1 : TX T (va_up T 2 (upd (T 2) 2 (T 2 1))) → True := fun _ => trivial
  have t10 : (va_up T 2 (upd (T 2) 2 (nI i))) 0 = T 0 := va_up_ne _ _ (by decide)
  have t12 : (va_up T 2 (upd (T 2) 2 (nI i))) 2 = upd (T 2) 2 (nI i) := va_up_self _ _ _
  have ek : T 0 i = nI κ := by rw [← hc]; exact (hT.2.2 i hi).1
  rw [sv_eq, hat, t12, pk_us, ck_nI (by omega) (by omega), nI_clamp (by omega), t10, ek, hk, b1_some, if_neg (nI_ne0 (by omega) (by omega)), sv_eq, bx_uu, pk_un (show (1 : Nat) ≠ 2 by decide), hat, ← nI_succ]
  rw [if_neg (nI_nle (show 0 < w by omega) (by omega)), hat2, show (1 : Int32) = nI 1 from rfl, nI_add, sv_eq, if_neg (nI_ne0 (show 0 < w by omega) (by omega))]
  have hT4 : CT (va_up T 2 (upd (upd (T 2) 2 (nI i)) 1 (nI (i + 1)))) len c := ⟨by rw [va_up_self, pk_un (by decide), pk_un (by decide)]; exact hT.1, h60, by rw [va_up_ne _ _ (by decide)]; exact hT.2.2⟩
  have hM1 : RT (va_up M 12 (upd (M 12) 2 (nI (i + 1)))) len c := ⟨by rw [va_up_self, pk_un (by decide)]; exact hR.1, h60, by rw [va_up_ne _ _ (by decide)]; exact hR.2.2⟩
  obtain ⟨T5, M5, i', f1, f2, f3, f4, f5, f6, f7⟩ := form (R := R) hw4 (w - 1) FU 1099999 0 (i + 1) _ _ (by omega) (by rw [FU_eq]; omega) (by omega) hT4 hM1 (by omega) (by rw [va_up_self, pk_us]) (by rw [va_up_self, pk_us]) (fun q hq => by omega)
  have er : F_X5_reads_2 FU (va_up M 12 (upd (M 12) 2 (nI (i + 1)))) (nI w) 0 = F_X5_reads_32 (F_X5_reads_2 1099999) (va_up M 12 (upd (M 12) 2 (nI (i + 1)))) (nI w) (nI 0) := by
    show F_X5_readsB_2 (F_X5_reads_2 1099999) _ (nI w) (nI 0) = _
    unfold F_X5_readsB_2
    rw [if_neg (nI_ge (show 0 < w by omega) (by omega)), if_pos (by decide)]
  have u0 : T5 0 = T 0 := by rw [f5.1, va_up_ne _ _ (by decide)]
  have u2 : ∀ q, q ≠ 1 → q ≠ 2 → T5 2 q = T 2 q := fun q h1 h2 => by rw [f5.2 q h1, va_up_self, pk_un h1, pk_un h2]
  have u22 : T5 2 2 = nI i := by rw [f5.2 2 (by decide), va_up_self, pk_un (by decide), pk_us]
  have w0 : ∀ q, q ≠ 5 → q ≠ 12 → M5 q = M q := fun q h1 h2 => by rw [f6.1 q h1 h2, va_up_ne _ _ h2]
  have w12 : ∀ q, q ≠ 2 → M5 12 q = M 12 q := fun q h1 => by rw [f6.2 q h1, va_up_self, pk_un h1]
  rw [show (0 : Int32) = nI 0 from rfl] at er ⊢
  rw [er]
  rcases f7 with ⟨k1, k2⟩ | ⟨k1, k2, k3, k4⟩
  · rw [k1, b2_some, if_pos (show (0 : Int32) = nI 0 from rfl), k2, b2_some, if_pos (show (0 : Int32) = nI 0 from rfl), sv_eq, sv_eq]
    unfold F_X5_doesNext_78
    rw [sv_eq, va_up_self, pk_un (show (1 : Nat) ≠ 3 by decide), pk_un (show (2 : Nat) ≠ 3 by decide), f1, u22, f2, pk_sub (by omega)]
    refine ⟨_, _, _, rfl, ?_, ?_, fun q h1 h2 h3 => ?_, fun q h1 h2 => ?_, Or.inr ⟨1, by omega, by omega, rfl, ?_, ?_, fun _ => ?_, fun z => by omega⟩⟩
    · rw [va_up_ne _ _ (by decide), va_up_ne _ _ (by decide), u0]
    · rw [va_up_self, pk_un (by decide), pk_un (by decide), u2 0 (by decide) (by decide)]
    · rw [va_up_ne _ _ h3, w0 q h2 h3]
    · rw [va_up_self, pk_un h2, w12 q h1]
    · rw [va_up_self, pk_un (by decide), pk_us]
    · rw [va_up_self, pk_un (by decide), pk_un (by decide), u22]
    · rw [va_up_self, pk_us, va_up_self, pk_us]
  · rw [k1, b2_some, if_neg (show ¬ (1 : Int32) = nI 0 by decide), k2, b2_some, if_neg (show ¬ (1 : Int32) = nI 0 by decide)]
    rcases hHE T5 M5 (by rw [w0 0 (by decide) (by decide)]; exact hM) k4 with ⟨b, h1, h2, h3, h4⟩ | ⟨h1, h2, h3⟩
    · rw [h2, b1_some, if_neg (show ¬ nI b = -nI 1 from nI_n1 (by omega)), pm_93_bad hw4 h1 h4 b FU 0 (by omega) (by rw [FU_eq]; omega) (fun q' _ hq' => h3 q' hq'), sv_eq, sv_eq]
      refine ⟨_, _, _, rfl, ?_, ?_, fun q h1 h2 h3 => ?_, fun q h1 h2 => ?_, Or.inr ⟨2, by omega, by omega, rfl, ?_, ?_, fun _ => ?_, fun z => by omega⟩⟩
      · rw [va_up_ne _ _ (by decide), va_up_ne _ _ (by decide), u0]
      · rw [va_up_self, pk_un (by decide), va_up_self, pk_un (by decide), u2 0 (by decide) (by decide)]
      · rw [va_up_ne _ _ h3, w0 q h2 h3]
      · rw [va_up_self, pk_un h2, w12 q h1]
      · rw [va_up_self, pk_un (by decide), va_up_self, pk_us]; rfl
      · rw [va_up_self, pk_un (by decide), va_up_self, pk_un (by decide), u22]
      · rw [va_up_self, pk_us, va_up_self, pk_us]
    · rw [h1, b1_some, if_pos (show (-1 : Int32) = -nI 1 from rfl), pm_93_ok hw4 w FU 0 (by omega) (by rw [FU_eq]; omega) (fun q' _ hq' => h2 q' hq')]
      have m0 : (va_up M5 12 (upd (M5 12) 4 (-1000004 : Int32))) 0 = M5 0 := va_up_ne _ _ (by decide)
      have m5 : (va_up M5 12 (upd (M5 12) 4 (-1000004 : Int32))) 5 = M5 5 := va_up_ne _ _ (by decide)
      rcases h3 with ⟨h3, h4⟩ | ⟨h3, R', h4, A', h5, h6, h7⟩
      · rw [h3, b1_some, if_neg (show ¬ (1 : Int32) = nI 0 by decide), sv_eq, h4 _ m0 m5, b2_some, if_pos rfl]
        refine ⟨_, _, _, rfl, ?_, ?_, fun q h1 h2 h3 => ?_, fun q h1 h2 => ?_, Or.inr ⟨3, by omega, by omega, rfl, ?_, ?_, fun z => by omega, fun _ => ?_⟩⟩
        · rw [va_up_ne _ _ (by decide), u0]
        · rw [va_up_self, pk_un (by decide), u2 0 (by decide) (by decide)]
        · rw [va_up_ne _ _ h3, w0 q h2 h3]
        · rw [va_up_self, pk_un h2, w12 q h1]
        · rw [va_up_self, pk_us]; rfl
        · rw [va_up_self, pk_un (by decide), u22]
        · rw [va_up_self, pk_us]
      · obtain ⟨u, M7, g1, g2, g3, g4⟩ := h7 _ m0 m5
        rw [h3, b1_some, if_pos (show (0 : Int32) = nI 0 from rfl), h4, b1_some, sv_eq, g1, b2_some, if_neg g2]
        refine ⟨_, _, _, rfl, ?_, ?_, fun q h1 h2 h3 => ?_, fun q h1 h2 => ?_, Or.inl ⟨rfl, ?_, ?_, i', A', by omega, f4, ?_, ?_, h5, h6, g4⟩⟩
        · rw [va_up_ne _ _ (by decide), u0]
        · rw [va_up_self, pk_un (by decide), u2 0 (by decide) (by decide)]
        · rw [g3 q h1, va_up_ne _ _ h3, w0 q h2 h3]
        · rw [g3 12 (by decide), va_up_self, pk_un h2, w12 q h1]
        · rw [va_up_self, pk_un (by decide), u2 3 (by decide) (by decide)]
        · rw [va_up_self, pk_us, u2 5 (by decide) (by decide)]
        · rw [va_up_self, pk_un (by decide), f1]
        · rw [g3 12 (by decide), va_up_self, pk_un (by decide), f2]
theorem setting {T R M : Mm} {A : Lay} {len i : Nat} {c : Nat → Nat} (hB : LB A) (hL : LI R A) (hM : MI (M 0) A) (hT : CT T len c) (hR : RT M len c) (hat : T 2 1 = nI i) (hat2 : M 12 2 = nI i) (hi : i < len) : ∃ T' R' M', F_X2_readSetting T R = some (T', R') ∧ SO A len i T R M T' R' M' := by
  have h60 := hT.2.1
  have hc := (hT.2.2 i hi).2
  have hs := (rt_sign hR (by omega) hat2).1 hi
  have e : ∀ κ, κ < 1000 → (nI (c i) = nI κ ↔ c i = κ) := fun κ hκ => nI_eq (by omega) (by omega)
  by_cases c1 : c i = 104
  · refine setting_w (w := 2) hM hT hR hat hat2 hi c1 (by omega) (by omega) ?_ ?_ (fun T5 M5 m0 hn => he_h hB hL m0 hn)
    · unfold F_X2_numbersOf; rw [if_pos (show nI 104 = (104 : Int32) from rfl)]; rfl
    · unfold F_X5_doesNext F_X5_doesNext_22; rw [hs, b1_some, c1, if_pos (show nI 104 = (104 : Int32) from rfl), hat2]; rfl
  by_cases c2 : c i = 117
  · refine setting_w (w := 2) hM hT hR hat hat2 hi c2 (by omega) (by omega) ?_ ?_ (fun T5 M5 m0 hn => he_u hB hL m0 hn)
    · unfold F_X2_numbersOf; rw [if_neg (show ¬ nI 117 = (104 : Int32) by decide), if_neg (show ¬ nI 117 = (111 : Int32) by decide), if_neg (show ¬ nI 117 = (112 : Int32) by decide), if_pos (show nI 117 = (117 : Int32) from rfl)]; rfl
    · unfold F_X5_doesNext F_X5_doesNext_22; rw [hs, b1_some, c2, if_neg (show ¬ nI 117 = (104 : Int32) by decide), if_pos (show nI 117 = (117 : Int32) from rfl), hat2]; rfl
  by_cases c3 : c i = 111
  · refine setting_w (w := 3) hM hT hR hat hat2 hi c3 (by omega) (by omega) ?_ ?_ (fun T5 M5 m0 hn => he_o hB hL m0 hn)
    · unfold F_X2_numbersOf; rw [if_neg (show ¬ nI 111 = (104 : Int32) by decide), if_pos (show nI 111 = (111 : Int32) from rfl)]; rfl
    · unfold F_X5_doesNext; rw [hs, b1_some, c3, if_neg (show ¬ nI 111 = (104 : Int32) by decide), if_neg (show ¬ nI 111 = (117 : Int32) by decide), if_pos (show nI 111 = (111 : Int32) from rfl), hat2]; rfl
  by_cases c4 : c i = 112
  · refine setting_w (w := 4) hM hT hR hat hat2 hi c4 (by omega) (by omega) ?_ ?_ (fun T5 M5 m0 hn => he_p hB hL m0 hn)
    · unfold F_X2_numbersOf; rw [if_neg (show ¬ nI 112 = (104 : Int32) by decide), if_neg (show ¬ nI 112 = (111 : Int32) by decide), if_pos (show nI 112 = (112 : Int32) from rfl)]; rfl
    · unfold F_X5_doesNext; rw [hs, b1_some, c4, if_neg (show ¬ nI 112 = (104 : Int32) by decide), if_neg (show ¬ nI 112 = (117 : Int32) by decide), if_neg (show ¬ nI 112 = (111 : Int32) by decide), if_pos (show nI 112 = (112 : Int32) from rfl), hat2]; rfl
  -- no such kind
  have n1 : ¬ nI (c i) = (104 : Int32) := fun z => c1 ((e 104 (by omega)).mp z)
  have n2 : ¬ nI (c i) = (117 : Int32) := fun z => c2 ((e 117 (by omega)).mp z)
  have n3 : ¬ nI (c i) = (111 : Int32) := fun z => c3 ((e 111 (by omega)).mp z)
  have n4 : ¬ nI (c i) = (112 : Int32) := fun z => c4 ((e 112 (by omega)).mp z)
  have t10 : (va_up T 2 (upd (T 2) 2 (nI i))) 0 = T 0 := va_up_ne _ _ (by decide)
  have t12 : (va_up T 2 (upd (T 2) 2 (nI i))) 2 = upd (T 2) 2 (nI i) := va_up_self _ _ _
  unfold SO F_X2_readSetting F_X2_readForm F_X2_numbersOf F_X5_doesNext F_X5_doesNext_47 F_X5_doesNext_62 F_X5_doesNext_78
  rw [sv_eq, hat, t12, pk_us, ck_nI (by omega) (by omega), nI_clamp (by omega), t10, (hT.2.2 i hi).1, if_neg n1, if_neg n3, if_neg n4, if_neg n2, b1_some, if_pos rfl, b2_some, if_pos rfl, sv_eq, sv_eq, hs, b1_some, if_neg n1, if_neg n2, if_neg n3, if_neg n4, if_pos (by decide), hat2, sv_eq, if_pos rfl, sv_eq, Int32.add_zero]
  refine ⟨_, _, _, rfl, ?_, ?_, fun q h1 h2 h3 => ?_, fun q h1 h2 => ?_, Or.inr ⟨1, by omega, by omega, rfl, ?_, ?_, fun _ => ?_, fun z => by omega⟩⟩
  · rw [va_up_ne _ _ (by decide), va_up_ne _ _ (by decide), va_up_ne _ _ (by decide)]
  · rw [va_up_self, pk_un (by decide), va_up_self, pk_un (by decide), va_up_self, pk_un (by decide)]
  · rw [va_up_ne _ _ h3, va_up_ne _ _ h3]
  · rw [va_up_self, pk_un h2, va_up_self, pk_un h1]
  · rw [va_up_self, pk_un (by decide), va_up_self, pk_us]; rfl
  · rw [va_up_self, pk_un (by decide), va_up_self, pk_un (by decide), va_up_self, pk_us]
  · rw [va_up_self, pk_us, va_up_self, pk_un (by decide), pk_un (by decide), va_up_self, pk_us, va_up_self, pk_us, va_up_self, pk_un (by decide), hat, pk_us]
