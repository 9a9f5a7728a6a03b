abbrev wX0 (g : Nat → Nat) (ga : Nat → Nat → Nat) (cI cC cO : ClassId) (K : Mm) (P : Nat → Nat) (Hs : Nat → Mm) : va_W := [(g 0, .inr (0, [.ref (g 1), .int (K 0 0)])), (g 1, .inl (cO, 4, .inr (.inr (.inr (.inr (fun k => some (ga (P k) 0)))))))] ++ wX1 (ga 0) cI cC cO (Hs 0) ++ wX1 (ga 1) cI cC cO (Hs 1) ++ wX1 (ga 2) cI cC cO (Hs 2) ++ wX1 (ga 3) cI cC cO (Hs 3)
def rot (P : Nat → Nat) : Nat → Nat := va_up (va_up (va_up (va_up P 0 (P 1)) 1 (P 2)) 2 (P 3)) 3 (P 0)
theorem hs_at (g : Nat → Nat) (ga : Nat → Nat → Nat) (cI cC cO : ClassId) (K : Mm) (P : Nat → Nat) (Hs : Nat → Mm) {n : Nat} (h : n < 4) : (wX0 g ga cI cC cO K P Hs)[2 + 4 * n]? = some (ga n 0, .inr (1, [.ref (ga n 1), .ref (ga n 2), .ref (ga n 3), .int (Hs n 3 0), .int (Hs n 3 1)])) := by
  rcases (show n = 0 ∨ n = 1 ∨ n = 2 ∨ n = 3 by omega) with rfl | rfl | rfl | rfl <;> rfl
theorem hs_set (g : Nat → Nat) (ga : Nat → Nat → Nat) (cI cC cO : ClassId) (K : Mm) (P : Nat → Nat) (Hs : Nat → Mm) (j k n : Nat) (hi : j = k) : (wX0 g ga cI cC cO K P Hs).set 1 (g 1, .inl (cO, 4, .inr (.inr (.inr (.inr (va_up (fun k => some (ga (P k) 0)) j (some (ga n 0)))))))) = wX0 g ga cI cC cO K (va_up P k n) Hs := by
  subst hi
  have e : va_up (fun k => some (ga (P k) 0)) j (some (ga n 0)) = fun k => some (ga (va_up P j n k) 0) := by
    funext q
    unfold va_up
    by_cases h : q = j
    · rw [if_pos h, if_pos h]
    · rw [if_neg h, if_neg h]
  rw [e]
  rfl
def F_X0_dropOldest (K : Mm) (P : Nat → Nat) : Option (Mm × (Nat → Nat)) := if P 0 < 4 ∧ P 1 < 4 ∧ P 2 < 4 ∧ P 3 < 4 then some (va_up K 0 (upd (K 0) 0 (K 0 0 - 1)), rot P) else none
def F_X0_copyAt (K : Mm) (P : Nat → Nat) (Hs : Nat → Mm) (O : Mm) : Option (Nat → Mm) := ck (K 0 0) 4 <| if P (K 0 0).toNatClampNeg < 4 then b1 (F_X1_copyFrom (Hs (P (K 0 0).toNatClampNeg)) O) fun L => some (va_up Hs (P (K 0 0).toNatClampNeg) L) else none
def F_X0_keep (K : Mm) (P : Nat → Nat) (Hs : Nat → Mm) (O : Mm) : Option (Mm × (Nat → Nat) × (Nat → Mm)) := if K 0 0 = (4 : Int32) then b2 (F_X0_dropOldest K P) fun K P => b1 (F_X0_copyAt K P Hs O) fun Hs => some (va_up K 0 (upd (K 0) 0 (K 0 0 + 1)), P, Hs) else b1 (F_X0_copyAt K P Hs O) fun Hs => some (va_up K 0 (upd (K 0) 0 (K 0 0 + 1)), P, Hs)
def F_X0_restore (K : Mm) (P : Nat → Nat) (Hs : Nat → Mm) (O : Mm) : Option (Mm × Mm) := sv (va_up K 0 (upd (K 0) 0 (K 0 0 - 1))) fun K => ck (K 0 0) 4 <| if P (K 0 0).toNatClampNeg < 4 then b1 (F_X1_copyFrom O (Hs (P (K 0 0).toNatClampNeg))) fun L => some (K, L) else none
theorem lt4 {n : Nat} (h : n < 4) : n = 0 ∨ n = 1 ∨ n = 2 ∨ n = 3 := by omega
theorem up_set {Hs : Nat → Mm} {n k : Nat} {L : Mm} (h : n = k) : va_up Hs n L = va_up Hs k L := by rw [h]
