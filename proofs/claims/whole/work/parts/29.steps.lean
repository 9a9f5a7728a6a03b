/-! the steps that are still open -/
theorem st_pipe {L K : Mm} {P : Nat → Nat} {Hs : Nat → Mm} {S N T R M : Mm} (h : INV L K P Hs S N T R M) (x1 : Int32) (x2 : Int32) (x3 : Int32) (x4 : Int32) : ∃ (r : Int32) (L' : Mm) (K' : Mm) (P' : Nat → Nat) (Hs' : Nat → Mm) (M' : Mm), F_X4_pipe L K P Hs S N T R x1 x2 x3 x4 = some (r, L', K', P', Hs') ∧ F_X5_pipe M x1 x2 x3 x4 = some (r, M') ∧ INV L' K' P' Hs' S N T R M' := by
  sorry
theorem st_placeOf {L K : Mm} {P : Nat → Nat} {Hs : Nat → Mm} {S N T R M : Mm} (h : INV L K P Hs S N T R M) (x1 : Int32) (x2 : Int32) : ∃ (r : Int32) (S' : Mm) (N' : Mm) (M' : Mm), F_X4_placeOf L K P Hs S N T R x1 x2 = some (r, S', N') ∧ F_X5_placeOf M x1 x2 = some (r, M') ∧ INV L K P Hs S' N' T R M' := by
  sorry
theorem st_come {L K : Mm} {P : Nat → Nat} {Hs : Nat → Mm} {S N T R M : Mm} (h : INV L K P Hs S N T R M) (x1 : Int32) : ∃ (r : Int32) (S' : Mm) (N' : Mm) (M' : Mm), F_X4_come L K P Hs S N T R x1 = some (r, S', N') ∧ F_X5_come M x1 = some (r, M') ∧ INV L K P Hs S' N' T R M' := by
  sorry
theorem st_earliest {L K : Mm} {P : Nat → Nat} {Hs : Nat → Mm} {S N T R M : Mm} (h : INV L K P Hs S N T R M) (x1 : Int32) : ∃ (r : Int32) (S' : Mm) (N' : Mm) (M' : Mm), F_X4_earliest L K P Hs S N T R x1 = some (r, S', N') ∧ F_X5_earliest M x1 = some (r, M') ∧ INV L K P Hs S' N' T R M' := by
  sorry
theorem st_repeated {L K : Mm} {P : Nat → Nat} {Hs : Nat → Mm} {S N T R M : Mm} (h : INV L K P Hs S N T R M) (x1 : Int32) (x2 : Int32) : ∃ (r : Int32) (S' : Mm) (N' : Mm) (M' : Mm), F_X4_repeated L K P Hs S N T R x1 x2 = some (r, S', N') ∧ F_X5_repeated M x1 x2 = some (r, M') ∧ INV L K P Hs S' N' T R M' := by
  sorry
theorem st_narrow {L K : Mm} {P : Nat → Nat} {Hs : Nat → Mm} {S N T R M : Mm} (h : INV L K P Hs S N T R M) (x1 : Int32) : ∃ (r : Int32) (S' : Mm) (N' : Mm) (M' : Mm), F_X4_narrow L K P Hs S N T R x1 = some (r, S', N') ∧ F_X5_narrow M x1 = some (r, M') ∧ INV L K P Hs S' N' T R M' := by
  sorry
theorem st_wanting {L K : Mm} {P : Nat → Nat} {Hs : Nat → Mm} {S N T R M : Mm} (h : INV L K P Hs S N T R M) (x1 : Int32) (x2 : Int32) (x3 : Int32) : ∃ (r : Int32) (S' : Mm) (N' : Mm) (M' : Mm), F_X4_wanting L K P Hs S N T R x1 x2 x3 = some (r, S', N') ∧ F_X5_wanting M x1 x2 x3 = some (r, M') ∧ INV L K P Hs S' N' T R M' := by
  sorry
theorem st_dearest {L K : Mm} {P : Nat → Nat} {Hs : Nat → Mm} {S N T R M : Mm} (h : INV L K P Hs S N T R M) (x1 : Int32) (x2 : Int32) : ∃ (r : Int32) (S' : Mm) (N' : Mm) (M' : Mm), F_X4_dearest L K P Hs S N T R x1 x2 = some (r, S', N') ∧ F_X5_dearest M x1 x2 = some (r, M') ∧ INV L K P Hs S' N' T R M' := by
  sorry
theorem st_helpful {L K : Mm} {P : Nat → Nat} {Hs : Nat → Mm} {S N T R M : Mm} (h : INV L K P Hs S N T R M) (x1 : Int32) (x2 : Int32) : ∃ (r : Int32) (S' : Mm) (N' : Mm) (M' : Mm), F_X4_helpful L K P Hs S N T R x1 x2 = some (r, S', N') ∧ F_X5_helpful M x1 x2 = some (r, M') ∧ INV L K P Hs S' N' T R M' := by
  sorry
theorem st_withOneMore {L K : Mm} {P : Nat → Nat} {Hs : Nat → Mm} {S N T R M : Mm} (h : INV L K P Hs S N T R M) (x1 : Int32) (x2 : Int32) : ∃ (r : Int32) (S' : Mm) (N' : Mm) (M' : Mm), F_X4_withOneMore L K P Hs S N T R x1 x2 = some (r, S', N') ∧ F_X5_withOneMore M x1 x2 = some (r, M') ∧ INV L K P Hs S' N' T R M' := by
  sorry
theorem st_fault {L K : Mm} {P : Nat → Nat} {Hs : Nat → Mm} {S N T R M : Mm} (h : INV L K P Hs S N T R M) (x1 : Int32) : ∃ (r : Int32) (T' : Mm) (R' : Mm) (M' : Mm), F_X4_fault L K P Hs S N T R x1 = some (r, T', R') ∧ F_X5_fault M x1 = some (r, M') ∧ INV L K P Hs S N T' R' M' := by
  sorry
theorem st_play {L K : Mm} {P : Nat → Nat} {Hs : Nat → Mm} {S N T R M : Mm} (h : INV L K P Hs S N T R M) : ∃ (r : Int32) (L' : Mm) (K' : Mm) (P' : Nat → Nat) (Hs' : Nat → Mm) (T' : Mm) (R' : Mm) (M' : Mm), F_X4_play L K P Hs S N T R = some (r, L', K', P', Hs', T', R') ∧ F_X5_play M = some (r, M') ∧ INV L' K' P' Hs' S N T' R' M' := by
  sorry
