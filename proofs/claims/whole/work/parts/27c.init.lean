/-! PURE PART: the start. -/
theorem pc_init1 : ∃ L : Mm, F_X1_init = some L ∧ L 3 0 = nI 1 ∧ L 3 1 = nI 0 ∧ L 0 0 = nI 0 ∧ L 1 0 = nI 40 := by
  unfold F_X1_init
  rw [sv_eq, sv_eq, show (0 : Int32) = nI 0 from rfl, ck_nI (by omega) (by omega), sv_eq, nI_clamp (by omega)]
  refine ⟨_, rfl, ?_, ?_, ?_, ?_⟩
  · simp [va_up, upd]; rfl
  · simp [va_up, upd]
  · simp [va_up, upd]; rfl
  · simp [va_up, upd]; rfl
theorem st_init : ∃ (L K : Mm) (P : Nat → Nat) (Hs : Nat → Mm) (S N T R M : Mm), F_X4_init = some (L, K, P, Hs, S, N, T, R) ∧ F_X5_init = some M ∧ INV L K P Hs S N T R M := by
  obtain ⟨L, e, h1, h2, h3, h4⟩ := pc_init1
  unfold F_X4_init F_X3_init F_X2_init F_X0_init F_X5_init F_X5_asIs
  rw [e, b1_some, b1_some, b1_some, b1_some, sv_eq, sv_eq, b1_some, b1_some, sv_eq, sv_eq, sv_eq, sv_eq, sv_eq, sv_eq, b1_some]
  rw [show ∀ x : Option Mm, ck (0 : Int32) 74 x = x from fun x => ck_nI (a := 0) (by omega) (by omega), sv_eq, show ∀ x : Option Mm, ck (3 : Int32) 74 x = x from fun x => ck_nI (a := 3) (by omega) (by omega), sv_eq, sv_eq, sv_eq, sv_eq, sv_eq, b1_some]
  refine ⟨L, zz, fun k => k, fun _ => L, _, _, _, _, _, rfl, rfl, fun i j => if i = 0 then 1 else if i = 3 then 40 else 0, 0, fun _ _ _ => 0, 0, ?_, ?_, ?_, ?_, ?_, ?_, ?_⟩
  · refine ⟨by simp, by simp, by simp, fun p _ => by simp, fun k hk => absurd hk (by simp)⟩
  · refine ⟨h1, h2, fun p hp => ?_, fun k hk => absurd hk (by simp)⟩
    have hp : p < 1 := hp
    have : p = 0 := by omega
    subst this
    exact ⟨h3, h4⟩
  · refine ⟨?_, ?_, fun p hp => ?_, fun k hk => absurd hk (by simp)⟩
    · rfl
    · rfl
    · have hp : p < 1 := hp
      have : p = 0 := by omega
      subst this
      exact ⟨rfl, rfl⟩
  · exact ⟨by omega, rfl, fun i hi => hi, fun i j _ _ z => z, fun i hi => by omega⟩
  · exact ⟨rfl, fun i hi => by omega⟩
  · exact ⟨by omega, rfl, rfl, fun i hi => by omega⟩
  · exact ⟨rfl, rfl, rfl, rfl⟩
