theorem dX4_place_0 : decode cX4_place 0 = .ok (.aload_n 0, 1) := by decide +kernel
theorem dX4_place_1 : decode cX4_place 1 = .ok (.getfield 10, 3) := by decide +kernel
theorem dX4_place_4 : decode cX4_place 4 = .ok (.iload_n 1, 1) := by decide +kernel
theorem dX4_place_5 : decode cX4_place 5 = .ok (.iload_n 2, 1) := by decide +kernel
theorem dX4_place_6 : decode cX4_place 6 = .ok (.invokevirtual 37, 3) := by decide +kernel
theorem dX4_place_9 : decode cX4_place 9 = .ok (.iconst (-1), 1) := by decide +kernel
theorem dX4_place_10 : decode cX4_place 10 = .ok (.if_icmp .eq 6, 3) := by decide +kernel
theorem dX4_place_13 : decode cX4_place 13 = .ok (.ldc 41, 2) := by decide +kernel
theorem dX4_place_15 : decode cX4_place 15 = .ok (.ireturn, 1) := by decide +kernel
theorem dX4_place_16 : decode cX4_place 16 = .ok (.aload_n 0, 1) := by decide +kernel
theorem dX4_place_17 : decode cX4_place 17 = .ok (.getfield 10, 3) := by decide +kernel
theorem dX4_place_20 : decode cX4_place 20 = .ok (.invokevirtual 42, 3) := by decide +kernel
theorem dX4_place_23 : decode cX4_place 23 = .ok (.ifCond .eq 6, 3) := by decide +kernel
theorem dX4_place_26 : decode cX4_place 26 = .ok (.ldc 46, 2) := by decide +kernel
theorem dX4_place_28 : decode cX4_place 28 = .ok (.ireturn, 1) := by decide +kernel
theorem dX4_place_29 : decode cX4_place 29 = .ok (.aload_n 0, 1) := by decide +kernel
theorem dX4_place_30 : decode cX4_place 30 = .ok (.getfield 19, 3) := by decide +kernel
theorem dX4_place_33 : decode cX4_place 33 = .ok (.aload_n 0, 1) := by decide +kernel
theorem dX4_place_34 : decode cX4_place 34 = .ok (.getfield 10, 3) := by decide +kernel
theorem dX4_place_37 : decode cX4_place 37 = .ok (.invokevirtual 47, 3) := by decide +kernel
theorem dX4_place_40 : decode cX4_place 40 = .ok (.aload_n 0, 1) := by decide +kernel
theorem dX4_place_41 : decode cX4_place 41 = .ok (.getfield 10, 3) := by decide +kernel
theorem dX4_place_44 : decode cX4_place 44 = .ok (.iload_n 1, 1) := by decide +kernel
theorem dX4_place_45 : decode cX4_place 45 = .ok (.iload_n 2, 1) := by decide +kernel
theorem dX4_place_46 : decode cX4_place 46 = .ok (.invokevirtual 51, 3) := by decide +kernel
theorem dX4_place_49 : decode cX4_place 49 = .ok (.ireturn, 1) := by decide +kernel
set_option maxHeartbeats 4000000 in
set_option maxRecDepth 100000 in
theorem c_X4_place (l : Launch) (D : va_G) (cI cC cO : ClassId) (o : Nat → Nat) (a : Nat → Nat) (g : Nat → Nat) (ga : Nat → Nat → Nat) (f : Nat → Nat) (n : Nat → Nat) (t : Nat → Nat) (r : Nat → Nat) (L : Mm) (K : Mm) (P : Nat → Nat) (Hs : Nat → Mm) (S : Mm) (N : Mm) (T : Mm) (R : Mm) (x1 x2 : Int32) (res : Int32 × Mm × Mm × (Nat → Nat) × (Nat → Mm)) (sz : Nat) (h : F_X4_place L K P Hs S N T R x1 x2 = some res) : Met l yX4_place (Cond.code yX4_place cX4_place 3 (Option.some Jvm.ClassFile.FieldType.int) :: lw_g) ({ frames := 3, cells := 0, slots := 0, locals := 102 } : Room) (va_Pc [.ref (o 0), .int x1, .int x2] (pS D cI cC cO sz (wX4 o a g ga f n t r cI cC cO L K P Hs S N T R))) (QI D cI cC cO (va_A (wX4 o a g ga f n t r cI cC cO L K P Hs S N T R) sz) (wX4 o a g ga f n t r cI cC cO res.2.1 res.2.2.1 res.2.2.2.1 res.2.2.2.2 S N T R) res.1) 0 0 (va_A (wX4 o a g ga f n t r cI cC cO L K P Hs S N T R) sz) := by
  refine Met.ofW (cc := cX4_place) (maxL := 3) (ret := (Option.some Jvm.ClassFile.FieldType.int)) (by decide) rfl ?_
  intro p e s m args below meth c s₁ B hml hv
  obtain ⟨rfl, rfl, hP, hK, hD0, hN⟩ := hv
  have hx := B.exec
  have hb := B.bytes
  have hr := B.returns
  have ht : ∀ w ∈ lw_g, w.before ([.ref (o 0), .int x1, .int x2] : List Value).toArray s = true := fun w hw => atoms_spec (ws := Cond.code yX4_place cX4_place 3 (Option.some Jvm.ClassFile.FieldType.int) :: lw_g) B.pre w (List.mem_cons_of_mem _ hw)
  have hown : s.vm.findClass RX4 = some m.cls := findClass_of_methodNamed B.named
  have hlocks := B.notSynchronized
  have hD := hD0.self (sz := s.heap.size)
  generalize hAe : va_A (wX4 o a g ga f n t r cI cC cO L K P Hs S N T R) s.heap.size = A at hD ⊢
  have hA : ∀ q : Nat, s.heap.size ≤ q → A q := fun q hq => by rw [← hAe]; exact Or.inr hq
  have hS : va_S A s.heap s.heap [] := va_S.rf
  have hl := lv_entry ([.ref (o 0), .int x1, .int x2]) (n := 3) (Nat.le_of_ble_eq_true rfl)
  rw [lg_entry_eq]
  generalize (lg_sl ([.ref (o 0), .int x1, .int x2]) ++ List.replicate (3 - (lg_sl ([.ref (o 0), .int x1, .int x2])).length) Slot.unset).toArray = ls at hl ⊢
  have hl : lv_has ls 3 [(0, .ref (o 0)), (1, .int x1), (2, .int x2)] := hl
  unfold F_X4_place at h
  refine lv_aload_n hx hb dX4_place_0 rfl (lv_at hl 0 rfl) ?_
  refine va_get (D := D) (ci := 4) (v := .ref (a 0)) (C := RX4) (T := TX4) (N := 4) hx hb ht i_X4 hown hK hP 0 rfl rfl 0 (by decide) (ht _ wd_138) (fun _ h9 => h9) rfl dX4_place_1 ?_
  refine lv_iload_n hx hb dX4_place_4 rfl (lv_at hl 1 rfl) ?_
  refine lv_iload_n hx hb dX4_place_5 rfl (lv_at hl 2 rfl) ?_
  obtain ⟨u1, e2, h⟩ := b1_ok h
  refine cp_Vi (ws' := (wX4 o a g ga f n t r cI cC cO L K P Hs S N T R)) ⟨hx, hb, hml, hown, ht⟩ (c_X1_badOfPlace l D cI cC cO a L x1 x2 _ _ e2) (cwv 2 ht wd_158 wd_2 wd_155 wd_156 wd_157 (by decide +kernel) rfl rfl ⟨Nat.le_of_ble_eq_true rfl, Nat.le_of_ble_eq_true rfl⟩) 1 0 rfl rfl rfl hK hP hD hS hA hN (pm1_a _ _ _ _ _ _) (pm2_a _ _ _ _ _ _) rfl hl.1 rfl (Nat.le_of_ble_eq_true rfl) dX4_place_6 ⟨Nat.le_of_ble_eq_true rfl, Nat.le_of_ble_eq_true rfl⟩ (fun H locs hP hD hS => ?_)
  refine lv_iconst (v := (-1 : Int32)) hx hb dX4_place_9 (by decide) ?_
  refine lv_icmp_eq (tgt := 16) hx hb dX4_place_10 (by decide) (fun c3 => ?_) (fun c3 => ?_)
  · replace h := fp c3 h
    refine lv_aload_n hx hb dX4_place_16 rfl (lv_at hl 0 rfl) ?_
    refine va_get (D := D) (ci := 4) (v := .ref (a 0)) (C := RX4) (T := TX4) (N := 4) hx hb ht i_X4 hown hK hP 0 rfl rfl 0 (by decide) (ht _ wd_138) (fun _ h9 => h9) rfl dX4_place_17 ?_
    obtain ⟨u4, e5, h⟩ := b1_ok h
    refine cp_Vi (ws' := (wX4 o a g ga f n t r cI cC cO L K P Hs S N T R)) ⟨hx, hb, hml, hown, ht⟩ (c_X1_placesAreFull l D cI cC cO a L _ _ e5) (cwv 0 ht wd_166 wd_2 wd_163 wd_164 wd_165 (by decide +kernel) rfl rfl ⟨Nat.le_of_ble_eq_true rfl, Nat.le_of_ble_eq_true rfl⟩) 1 0 rfl rfl rfl hK hP hD hS hA hN (pm1_a _ _ _ _ _ _) (pm2_a _ _ _ _ _ _) rfl hl.1 rfl (Nat.le_of_ble_eq_true rfl) dX4_place_20 ⟨Nat.le_of_ble_eq_true rfl, Nat.le_of_ble_eq_true rfl⟩ (fun H locs hP hD hS => ?_)
    refine lv_if_eq (tgt := 29) hx hb dX4_place_23 (by decide) (fun c6 => ?_) (fun c6 => ?_)
    · replace h := fp c6 h
      refine lv_aload_n hx hb dX4_place_29 rfl (lv_at hl 0 rfl) ?_
      refine va_get (D := D) (ci := 4) (v := .ref (g 0)) (C := RX4) (T := TX4) (N := 4) hx hb ht i_X4 hown hK hP 0 rfl rfl 1 (by decide) (ht _ wd_139) (fun _ h9 => h9) rfl dX4_place_30 ?_
      refine lv_aload_n hx hb dX4_place_33 rfl (lv_at hl 0 rfl) ?_
      refine va_get (D := D) (ci := 4) (v := .ref (a 0)) (C := RX4) (T := TX4) (N := 4) hx hb ht i_X4 hown hK hP 0 rfl rfl 0 (by decide) (ht _ wd_138) (fun _ h9 => h9) rfl dX4_place_34 ?_
      obtain ⟨K7, P8, Hs9, e10, h⟩ := b3_ok h
      refine cp_Vv (ws' := (wX4 o a g ga f n t r cI cC cO L K7 P8 Hs9 S N T R)) ⟨hx, hb, hml, hown, ht⟩ (c_X0_keep l D cI cC cO g ga a K P Hs L _ _ e10) (cwv 1 ht wd_171 wd_3 wd_168 wd_169 wd_170 (by decide +kernel) rfl rfl ⟨Nat.le_of_ble_eq_true rfl, Nat.le_of_ble_eq_true rfl⟩) 0 0 rfl rfl rfl hK hP hD hS hA hN (pm1_ga _ _ _ _ _ _) (pm2_ga _ _ _ _ _ _) rfl hl.1 rfl (Nat.le_of_ble_eq_true rfl) dX4_place_37 ⟨Nat.le_of_ble_eq_true rfl, Nat.le_of_ble_eq_true rfl⟩ (fun H locs hP hD hS => ?_)
      refine lv_aload_n hx hb dX4_place_40 rfl (lv_at hl 0 rfl) ?_
      refine va_get (D := D) (ci := 4) (v := .ref (a 0)) (C := RX4) (T := TX4) (N := 4) hx hb ht i_X4 hown hK hP 0 rfl rfl 0 (by decide) (ht _ wd_138) (fun _ h9 => h9) rfl dX4_place_41 ?_
      refine lv_iload_n hx hb dX4_place_44 rfl (lv_at hl 1 rfl) ?_
      refine lv_iload_n hx hb dX4_place_45 rfl (lv_at hl 2 rfl) ?_
      obtain ⟨u11, L12, e13, h⟩ := b2_ok h
      refine cp_Vi (ws' := (wX4 o a g ga f n t r cI cC cO L12 K7 P8 Hs9 S N T R)) ⟨hx, hb, hml, hown, ht⟩ (c_X1_addPlace l D cI cC cO a L x1 x2 _ _ e13) (cwv 2 ht wd_186 wd_2 wd_183 wd_184 wd_185 (by decide +kernel) rfl rfl ⟨Nat.le_of_ble_eq_true rfl, Nat.le_of_ble_eq_true rfl⟩) 1 0 rfl rfl rfl hK hP hD hS hA hN (pm1_a _ _ _ _ _ _) (pm2_a _ _ _ _ _ _) rfl hl.1 rfl (Nat.le_of_ble_eq_true rfl) dX4_place_46 ⟨Nat.le_of_ble_eq_true rfl, Nat.le_of_ble_eq_true rfl⟩ (fun H locs hP hD hS => ?_)
      cases h
      exact rt_i hx hb hr hlocks hS hP hK hD dX4_place_49
    · replace h := fn c6 h
      refine lv_ldc hx hb hown (ht _ wd_167) dX4_place_26 ?_
      cases h
      exact rt_i hx hb hr hlocks hS hP hK hD dX4_place_28
  · replace h := fn c3 h
    refine lv_ldc hx hb hown (ht _ wd_162) dX4_place_13 ?_
    cases h
    exact rt_i hx hb hr hlocks hS hP hK hD dX4_place_15
theorem dX4_pipe_0 : decode cX4_pipe 0 = .ok (.aload_n 0, 1) := by decide +kernel
theorem dX4_pipe_1 : decode cX4_pipe 1 = .ok (.getfield 10, 3) := by decide +kernel
theorem dX4_pipe_4 : decode cX4_pipe 4 = .ok (.iload_n 1, 1) := by decide +kernel
theorem dX4_pipe_5 : decode cX4_pipe 5 = .ok (.iload_n 2, 1) := by decide +kernel
theorem dX4_pipe_6 : decode cX4_pipe 6 = .ok (.iload_n 3, 1) := by decide +kernel
theorem dX4_pipe_7 : decode cX4_pipe 7 = .ok (.iload 4, 2) := by decide +kernel
theorem dX4_pipe_9 : decode cX4_pipe 9 = .ok (.invokevirtual 54, 3) := by decide +kernel
theorem dX4_pipe_12 : decode cX4_pipe 12 = .ok (.iconst (-1), 1) := by decide +kernel
theorem dX4_pipe_13 : decode cX4_pipe 13 = .ok (.if_icmp .eq 6, 3) := by decide +kernel
theorem dX4_pipe_16 : decode cX4_pipe 16 = .ok (.ldc 41, 2) := by decide +kernel
theorem dX4_pipe_18 : decode cX4_pipe 18 = .ok (.ireturn, 1) := by decide +kernel
theorem dX4_pipe_19 : decode cX4_pipe 19 = .ok (.aload_n 0, 1) := by decide +kernel
theorem dX4_pipe_20 : decode cX4_pipe 20 = .ok (.getfield 10, 3) := by decide +kernel
theorem dX4_pipe_23 : decode cX4_pipe 23 = .ok (.invokevirtual 58, 3) := by decide +kernel
theorem dX4_pipe_26 : decode cX4_pipe 26 = .ok (.ifCond .eq 6, 3) := by decide +kernel
theorem dX4_pipe_29 : decode cX4_pipe 29 = .ok (.ldc 46, 2) := by decide +kernel
theorem dX4_pipe_31 : decode cX4_pipe 31 = .ok (.ireturn, 1) := by decide +kernel
theorem dX4_pipe_32 : decode cX4_pipe 32 = .ok (.aload_n 0, 1) := by decide +kernel
theorem dX4_pipe_33 : decode cX4_pipe 33 = .ok (.getfield 19, 3) := by decide +kernel
theorem dX4_pipe_36 : decode cX4_pipe 36 = .ok (.aload_n 0, 1) := by decide +kernel
theorem dX4_pipe_37 : decode cX4_pipe 37 = .ok (.getfield 10, 3) := by decide +kernel
theorem dX4_pipe_40 : decode cX4_pipe 40 = .ok (.invokevirtual 47, 3) := by decide +kernel
theorem dX4_pipe_43 : decode cX4_pipe 43 = .ok (.aload_n 0, 1) := by decide +kernel
theorem dX4_pipe_44 : decode cX4_pipe 44 = .ok (.getfield 10, 3) := by decide +kernel
theorem dX4_pipe_47 : decode cX4_pipe 47 = .ok (.iload_n 1, 1) := by decide +kernel
theorem dX4_pipe_48 : decode cX4_pipe 48 = .ok (.iload_n 2, 1) := by decide +kernel
theorem dX4_pipe_49 : decode cX4_pipe 49 = .ok (.iload_n 3, 1) := by decide +kernel
theorem dX4_pipe_50 : decode cX4_pipe 50 = .ok (.iload 4, 2) := by decide +kernel
theorem dX4_pipe_52 : decode cX4_pipe 52 = .ok (.invokevirtual 61, 3) := by decide +kernel
theorem dX4_pipe_55 : decode cX4_pipe 55 = .ok (.ireturn, 1) := by decide +kernel
set_option maxHeartbeats 4000000 in
set_option maxRecDepth 100000 in
theorem c_X4_pipe (l : Launch) (D : va_G) (cI cC cO : ClassId) (o : Nat → Nat) (a : Nat → Nat) (g : Nat → Nat) (ga : Nat → Nat → Nat) (f : Nat → Nat) (n : Nat → Nat) (t : Nat → Nat) (r : Nat → Nat) (L : Mm) (K : Mm) (P : Nat → Nat) (Hs : Nat → Mm) (S : Mm) (N : Mm) (T : Mm) (R : Mm) (x1 x2 x3 x4 : Int32) (res : Int32 × Mm × Mm × (Nat → Nat) × (Nat → Mm)) (sz : Nat) (h : F_X4_pipe L K P Hs S N T R x1 x2 x3 x4 = some res) : Met l yX4_pipe (Cond.code yX4_pipe cX4_pipe 5 (Option.some Jvm.ClassFile.FieldType.int) :: lw_g) ({ frames := 3, cells := 0, slots := 0, locals := 102 } : Room) (va_Pc [.ref (o 0), .int x1, .int x2, .int x3, .int x4] (pS D cI cC cO sz (wX4 o a g ga f n t r cI cC cO L K P Hs S N T R))) (QI D cI cC cO (va_A (wX4 o a g ga f n t r cI cC cO L K P Hs S N T R) sz) (wX4 o a g ga f n t r cI cC cO res.2.1 res.2.2.1 res.2.2.2.1 res.2.2.2.2 S N T R) res.1) 0 0 (va_A (wX4 o a g ga f n t r cI cC cO L K P Hs S N T R) sz) := by
  refine Met.ofW (cc := cX4_pipe) (maxL := 5) (ret := (Option.some Jvm.ClassFile.FieldType.int)) (by decide) rfl ?_
  intro p e s m args below meth c s₁ B hml hv
  obtain ⟨rfl, rfl, hP, hK, hD0, hN⟩ := hv
  have hx := B.exec
  have hb := B.bytes
  have hr := B.returns
  have ht : ∀ w ∈ lw_g, w.before ([.ref (o 0), .int x1, .int x2, .int x3, .int x4] : List Value).toArray s = true := fun w hw => atoms_spec (ws := Cond.code yX4_pipe cX4_pipe 5 (Option.some Jvm.ClassFile.FieldType.int) :: lw_g) B.pre w (List.mem_cons_of_mem _ hw)
  have hown : s.vm.findClass RX4 = some m.cls := findClass_of_methodNamed B.named
  have hlocks := B.notSynchronized
  have hD := hD0.self (sz := s.heap.size)
  generalize hAe : va_A (wX4 o a g ga f n t r cI cC cO L K P Hs S N T R) s.heap.size = A at hD ⊢
  have hA : ∀ q : Nat, s.heap.size ≤ q → A q := fun q hq => by rw [← hAe]; exact Or.inr hq
  have hS : va_S A s.heap s.heap [] := va_S.rf
  have hl := lv_entry ([.ref (o 0), .int x1, .int x2, .int x3, .int x4]) (n := 5) (Nat.le_of_ble_eq_true rfl)
  rw [lg_entry_eq]
  generalize (lg_sl ([.ref (o 0), .int x1, .int x2, .int x3, .int x4]) ++ List.replicate (5 - (lg_sl ([.ref (o 0), .int x1, .int x2, .int x3, .int x4])).length) Slot.unset).toArray = ls at hl ⊢
  have hl : lv_has ls 5 [(0, .ref (o 0)), (1, .int x1), (2, .int x2), (3, .int x3), (4, .int x4)] := hl
  unfold F_X4_pipe at h
  refine lv_aload_n hx hb dX4_pipe_0 rfl (lv_at hl 0 rfl) ?_
  refine va_get (D := D) (ci := 4) (v := .ref (a 0)) (C := RX4) (T := TX4) (N := 4) hx hb ht i_X4 hown hK hP 0 rfl rfl 0 (by decide) (ht _ wd_138) (fun _ h9 => h9) rfl dX4_pipe_1 ?_
  refine lv_iload_n hx hb dX4_pipe_4 rfl (lv_at hl 1 rfl) ?_
  refine lv_iload_n hx hb dX4_pipe_5 rfl (lv_at hl 2 rfl) ?_
  refine lv_iload_n hx hb dX4_pipe_6 rfl (lv_at hl 3 rfl) ?_
  refine lv_iload hx hb dX4_pipe_7 (lv_at hl 4 rfl) ?_
  obtain ⟨u1, e2, h⟩ := b1_ok h
  refine cp_Vi (ws' := (wX4 o a g ga f n t r cI cC cO L K P Hs S N T R)) ⟨hx, hb, hml, hown, ht⟩ (c_X1_badOfPipe l D cI cC cO a L x1 x2 x3 x4 _ _ e2) (cwv 4 ht wd_194 wd_2 wd_191 wd_192 wd_193 (by decide +kernel) rfl rfl ⟨Nat.le_of_ble_eq_true rfl, Nat.le_of_ble_eq_true rfl⟩) 1 0 rfl rfl rfl hK hP hD hS hA hN (pm1_a _ _ _ _ _ _) (pm2_a _ _ _ _ _ _) rfl hl.1 rfl (Nat.le_of_ble_eq_true rfl) dX4_pipe_9 ⟨Nat.le_of_ble_eq_true rfl, Nat.le_of_ble_eq_true rfl⟩ (fun H locs hP hD hS => ?_)
  refine lv_iconst (v := (-1 : Int32)) hx hb dX4_pipe_12 (by decide) ?_
  refine lv_icmp_eq (tgt := 19) hx hb dX4_pipe_13 (by decide) (fun c3 => ?_) (fun c3 => ?_)
  · replace h := fp c3 h
    refine lv_aload_n hx hb dX4_pipe_19 rfl (lv_at hl 0 rfl) ?_
    refine va_get (D := D) (ci := 4) (v := .ref (a 0)) (C := RX4) (T := TX4) (N := 4) hx hb ht i_X4 hown hK hP 0 rfl rfl 0 (by decide) (ht _ wd_138) (fun _ h9 => h9) rfl dX4_pipe_20 ?_
    obtain ⟨u4, e5, h⟩ := b1_ok h
    refine cp_Vi (ws' := (wX4 o a g ga f n t r cI cC cO L K P Hs S N T R)) ⟨hx, hb, hml, hown, ht⟩ (c_X1_pipesAreFull l D cI cC cO a L _ _ e5) (cwv 0 ht wd_202 wd_2 wd_199 wd_200 wd_201 (by decide +kernel) rfl rfl ⟨Nat.le_of_ble_eq_true rfl, Nat.le_of_ble_eq_true rfl⟩) 1 0 rfl rfl rfl hK hP hD hS hA hN (pm1_a _ _ _ _ _ _) (pm2_a _ _ _ _ _ _) rfl hl.1 rfl (Nat.le_of_ble_eq_true rfl) dX4_pipe_23 ⟨Nat.le_of_ble_eq_true rfl, Nat.le_of_ble_eq_true rfl⟩ (fun H locs hP hD hS => ?_)
    refine lv_if_eq (tgt := 32) hx hb dX4_pipe_26 (by decide) (fun c6 => ?_) (fun c6 => ?_)
    · replace h := fp c6 h
      refine lv_aload_n hx hb dX4_pipe_32 rfl (lv_at hl 0 rfl) ?_
      refine va_get (D := D) (ci := 4) (v := .ref (g 0)) (C := RX4) (T := TX4) (N := 4) hx hb ht i_X4 hown hK hP 0 rfl rfl 1 (by decide) (ht _ wd_139) (fun _ h9 => h9) rfl dX4_pipe_33 ?_
      refine lv_aload_n hx hb dX4_pipe_36 rfl (lv_at hl 0 rfl) ?_
      refine va_get (D := D) (ci := 4) (v := .ref (a 0)) (C := RX4) (T := TX4) (N := 4) hx hb ht i_X4 hown hK hP 0 rfl rfl 0 (by decide) (ht _ wd_138) (fun _ h9 => h9) rfl dX4_pipe_37 ?_
      obtain ⟨K7, P8, Hs9, e10, h⟩ := b3_ok h
      refine cp_Vv (ws' := (wX4 o a g ga f n t r cI cC cO L K7 P8 Hs9 S N T R)) ⟨hx, hb, hml, hown, ht⟩ (c_X0_keep l D cI cC cO g ga a K P Hs L _ _ e10) (cwv 1 ht wd_171 wd_3 wd_168 wd_169 wd_170 (by decide +kernel) rfl rfl ⟨Nat.le_of_ble_eq_true rfl, Nat.le_of_ble_eq_true rfl⟩) 0 0 rfl rfl rfl hK hP hD hS hA hN (pm1_ga _ _ _ _ _ _) (pm2_ga _ _ _ _ _ _) rfl hl.1 rfl (Nat.le_of_ble_eq_true rfl) dX4_pipe_40 ⟨Nat.le_of_ble_eq_true rfl, Nat.le_of_ble_eq_true rfl⟩ (fun H locs hP hD hS => ?_)
      refine lv_aload_n hx hb dX4_pipe_43 rfl (lv_at hl 0 rfl) ?_
      refine va_get (D := D) (ci := 4) (v := .ref (a 0)) (C := RX4) (T := TX4) (N := 4) hx hb ht i_X4 hown hK hP 0 rfl rfl 0 (by decide) (ht _ wd_138) (fun _ h9 => h9) rfl dX4_pipe_44 ?_
      refine lv_iload_n hx hb dX4_pipe_47 rfl (lv_at hl 1 rfl) ?_
      refine lv_iload_n hx hb dX4_pipe_48 rfl (lv_at hl 2 rfl) ?_
      refine lv_iload_n hx hb dX4_pipe_49 rfl (lv_at hl 3 rfl) ?_
      refine lv_iload hx hb dX4_pipe_50 (lv_at hl 4 rfl) ?_
      obtain ⟨u11, L12, e13, h⟩ := b2_ok h
      refine cp_Vi (ws' := (wX4 o a g ga f n t r cI cC cO L12 K7 P8 Hs9 S N T R)) ⟨hx, hb, hml, hown, ht⟩ (c_X1_addPipe l D cI cC cO a L x1 x2 x3 x4 _ _ e13) (cwv 4 ht wd_206 wd_2 wd_203 wd_204 wd_205 (by decide +kernel) rfl rfl ⟨Nat.le_of_ble_eq_true rfl, Nat.le_of_ble_eq_true rfl⟩) 1 0 rfl rfl rfl hK hP hD hS hA hN (pm1_a _ _ _ _ _ _) (pm2_a _ _ _ _ _ _) rfl hl.1 rfl (Nat.le_of_ble_eq_true rfl) dX4_pipe_52 ⟨Nat.le_of_ble_eq_true rfl, Nat.le_of_ble_eq_true rfl⟩ (fun H locs hP hD hS => ?_)
      cases h
      exact rt_i hx hb hr hlocks hS hP hK hD dX4_pipe_55
    · replace h := fn c6 h
      refine lv_ldc hx hb hown (ht _ wd_167) dX4_pipe_29 ?_
      cases h
      exact rt_i hx hb hr hlocks hS hP hK hD dX4_pipe_31
  · replace h := fn c3 h
    refine lv_ldc hx hb hown (ht _ wd_162) dX4_pipe_16 ?_
    cases h
    exact rt_i hx hb hr hlocks hS hP hK hD dX4_pipe_18
theorem dX4_dropPipe_0 : decode cX4_dropPipe 0 = .ok (.aload_n 0, 1) := by decide +kernel
theorem dX4_dropPipe_1 : decode cX4_dropPipe 1 = .ok (.getfield 10, 3) := by decide +kernel
theorem dX4_dropPipe_4 : decode cX4_dropPipe 4 = .ok (.iload_n 1, 1) := by decide +kernel
theorem dX4_dropPipe_5 : decode cX4_dropPipe 5 = .ok (.invokevirtual 64, 3) := by decide +kernel
theorem dX4_dropPipe_8 : decode cX4_dropPipe 8 = .ok (.ifCond .ne 6, 3) := by decide +kernel
theorem dX4_dropPipe_11 : decode cX4_dropPipe 11 = .ok (.ldc 41, 2) := by decide +kernel
theorem dX4_dropPipe_13 : decode cX4_dropPipe 13 = .ok (.ireturn, 1) := by decide +kernel
theorem dX4_dropPipe_14 : decode cX4_dropPipe 14 = .ok (.aload_n 0, 1) := by decide +kernel
theorem dX4_dropPipe_15 : decode cX4_dropPipe 15 = .ok (.getfield 19, 3) := by decide +kernel
theorem dX4_dropPipe_18 : decode cX4_dropPipe 18 = .ok (.aload_n 0, 1) := by decide +kernel
theorem dX4_dropPipe_19 : decode cX4_dropPipe 19 = .ok (.getfield 10, 3) := by decide +kernel
theorem dX4_dropPipe_22 : decode cX4_dropPipe 22 = .ok (.invokevirtual 47, 3) := by decide +kernel
theorem dX4_dropPipe_25 : decode cX4_dropPipe 25 = .ok (.aload_n 0, 1) := by decide +kernel
theorem dX4_dropPipe_26 : decode cX4_dropPipe 26 = .ok (.getfield 10, 3) := by decide +kernel
theorem dX4_dropPipe_29 : decode cX4_dropPipe 29 = .ok (.iload_n 1, 1) := by decide +kernel
theorem dX4_dropPipe_30 : decode cX4_dropPipe 30 = .ok (.invokevirtual 68, 3) := by decide +kernel
theorem dX4_dropPipe_33 : decode cX4_dropPipe 33 = .ok (.aload_n 0, 1) := by decide +kernel
theorem dX4_dropPipe_34 : decode cX4_dropPipe 34 = .ok (.getfield 10, 3) := by decide +kernel
theorem dX4_dropPipe_37 : decode cX4_dropPipe 37 = .ok (.getfield 72, 3) := by decide +kernel
theorem dX4_dropPipe_40 : decode cX4_dropPipe 40 = .ok (.ireturn, 1) := by decide +kernel
set_option maxHeartbeats 4000000 in
set_option maxRecDepth 100000 in
theorem c_X4_dropPipe (l : Launch) (D : va_G) (cI cC cO : ClassId) (o : Nat → Nat) (a : Nat → Nat) (g : Nat → Nat) (ga : Nat → Nat → Nat) (f : Nat → Nat) (n : Nat → Nat) (t : Nat → Nat) (r : Nat → Nat) (L : Mm) (K : Mm) (P : Nat → Nat) (Hs : Nat → Mm) (S : Mm) (N : Mm) (T : Mm) (R : Mm) (x1 : Int32) (res : Int32 × Mm × Mm × (Nat → Nat) × (Nat → Mm)) (sz : Nat) (h : F_X4_dropPipe L K P Hs S N T R x1 = some res) : Met l yX4_dropPipe (Cond.code yX4_dropPipe cX4_dropPipe 2 (Option.some Jvm.ClassFile.FieldType.int) :: lw_g) ({ frames := 3, cells := 0, slots := 0, locals := 102 } : Room) (va_Pc [.ref (o 0), .int x1] (pS D cI cC cO sz (wX4 o a g ga f n t r cI cC cO L K P Hs S N T R))) (QI D cI cC cO (va_A (wX4 o a g ga f n t r cI cC cO L K P Hs S N T R) sz) (wX4 o a g ga f n t r cI cC cO res.2.1 res.2.2.1 res.2.2.2.1 res.2.2.2.2 S N T R) res.1) 0 0 (va_A (wX4 o a g ga f n t r cI cC cO L K P Hs S N T R) sz) := by
  refine Met.ofW (cc := cX4_dropPipe) (maxL := 2) (ret := (Option.some Jvm.ClassFile.FieldType.int)) (by decide) rfl ?_
  intro p e s m args below meth c s₁ B hml hv
  obtain ⟨rfl, rfl, hP, hK, hD0, hN⟩ := hv
  have hx := B.exec
  have hb := B.bytes
  have hr := B.returns
  have ht : ∀ w ∈ lw_g, w.before ([.ref (o 0), .int x1] : List Value).toArray s = true := fun w hw => atoms_spec (ws := Cond.code yX4_dropPipe cX4_dropPipe 2 (Option.some Jvm.ClassFile.FieldType.int) :: lw_g) B.pre w (List.mem_cons_of_mem _ hw)
  have hown : s.vm.findClass RX4 = some m.cls := findClass_of_methodNamed B.named
  have hlocks := B.notSynchronized
  have hD := hD0.self (sz := s.heap.size)
  generalize hAe : va_A (wX4 o a g ga f n t r cI cC cO L K P Hs S N T R) s.heap.size = A at hD ⊢
  have hA : ∀ q : Nat, s.heap.size ≤ q → A q := fun q hq => by rw [← hAe]; exact Or.inr hq
  have hS : va_S A s.heap s.heap [] := va_S.rf
  have hl := lv_entry ([.ref (o 0), .int x1]) (n := 2) (Nat.le_of_ble_eq_true rfl)
  rw [lg_entry_eq]
  generalize (lg_sl ([.ref (o 0), .int x1]) ++ List.replicate (2 - (lg_sl ([.ref (o 0), .int x1])).length) Slot.unset).toArray = ls at hl ⊢
  have hl : lv_has ls 2 [(0, .ref (o 0)), (1, .int x1)] := hl
  unfold F_X4_dropPipe at h
  refine lv_aload_n hx hb dX4_dropPipe_0 rfl (lv_at hl 0 rfl) ?_
  refine va_get (D := D) (ci := 4) (v := .ref (a 0)) (C := RX4) (T := TX4) (N := 4) hx hb ht i_X4 hown hK hP 0 rfl rfl 0 (by decide) (ht _ wd_138) (fun _ h9 => h9) rfl dX4_dropPipe_1 ?_
  refine lv_iload_n hx hb dX4_dropPipe_4 rfl (lv_at hl 1 rfl) ?_
  obtain ⟨u1, e2, h⟩ := b1_ok h
  refine cp_Vi (ws' := (wX4 o a g ga f n t r cI cC cO L K P Hs S N T R)) ⟨hx, hb, hml, hown, ht⟩ (c_X1_isPipe l D cI cC cO a L x1 _ _ e2) (cwv 1 ht wd_222 wd_2 wd_219 wd_220 wd_221 (by decide +kernel) rfl rfl ⟨Nat.le_of_ble_eq_true rfl, Nat.le_of_ble_eq_true rfl⟩) 1 0 rfl rfl rfl hK hP hD hS hA hN (pm1_a _ _ _ _ _ _) (pm2_a _ _ _ _ _ _) rfl hl.1 rfl (Nat.le_of_ble_eq_true rfl) dX4_dropPipe_5 ⟨Nat.le_of_ble_eq_true rfl, Nat.le_of_ble_eq_true rfl⟩ (fun H locs hP hD hS => ?_)
  refine lv_if_ne (tgt := 14) hx hb dX4_dropPipe_8 (by decide) (fun c3 => ?_) (fun c3 => ?_)
  · replace h := fn c3 h
    refine lv_aload_n hx hb dX4_dropPipe_14 rfl (lv_at hl 0 rfl) ?_
    refine va_get (D := D) (ci := 4) (v := .ref (g 0)) (C := RX4) (T := TX4) (N := 4) hx hb ht i_X4 hown hK hP 0 rfl rfl 1 (by decide) (ht _ wd_139) (fun _ h9 => h9) rfl dX4_dropPipe_15 ?_
    refine lv_aload_n hx hb dX4_dropPipe_18 rfl (lv_at hl 0 rfl) ?_
    refine va_get (D := D) (ci := 4) (v := .ref (a 0)) (C := RX4) (T := TX4) (N := 4) hx hb ht i_X4 hown hK hP 0 rfl rfl 0 (by decide) (ht _ wd_138) (fun _ h9 => h9) rfl dX4_dropPipe_19 ?_
    obtain ⟨K4, P5, Hs6, e7, h⟩ := b3_ok h
    refine cp_Vv (ws' := (wX4 o a g ga f n t r cI cC cO L K4 P5 Hs6 S N T R)) ⟨hx, hb, hml, hown, ht⟩ (c_X0_keep l D cI cC cO g ga a K P Hs L _ _ e7) (cwv 1 ht wd_171 wd_3 wd_168 wd_169 wd_170 (by decide +kernel) rfl rfl ⟨Nat.le_of_ble_eq_true rfl, Nat.le_of_ble_eq_true rfl⟩) 0 0 rfl rfl rfl hK hP hD hS hA hN (pm1_ga _ _ _ _ _ _) (pm2_ga _ _ _ _ _ _) rfl hl.1 rfl (Nat.le_of_ble_eq_true rfl) dX4_dropPipe_22 ⟨Nat.le_of_ble_eq_true rfl, Nat.le_of_ble_eq_true rfl⟩ (fun H locs hP hD hS => ?_)
    refine lv_aload_n hx hb dX4_dropPipe_25 rfl (lv_at hl 0 rfl) ?_
    refine va_get (D := D) (ci := 4) (v := .ref (a 0)) (C := RX4) (T := TX4) (N := 4) hx hb ht i_X4 hown hK hP 0 rfl rfl 0 (by decide) (ht _ wd_138) (fun _ h9 => h9) rfl dX4_dropPipe_26 ?_
    refine lv_iload_n hx hb dX4_dropPipe_29 rfl (lv_at hl 1 rfl) ?_
    obtain ⟨L8, e9, h⟩ := b1_ok h
    refine cp_Vv (ws' := (wX4 o a g ga f n t r cI cC cO L8 K4 P5 Hs6 S N T R)) ⟨hx, hb, hml, hown, ht⟩ (c_X1_removePipe l D cI cC cO a L x1 _ _ e9) (cwv 1 ht wd_226 wd_2 wd_223 wd_224 wd_225 (by decide +kernel) rfl rfl ⟨Nat.le_of_ble_eq_true rfl, Nat.le_of_ble_eq_true rfl⟩) 1 0 rfl rfl rfl hK hP hD hS hA hN (pm1_a _ _ _ _ _ _) (pm2_a _ _ _ _ _ _) rfl hl.1 rfl (Nat.le_of_ble_eq_true rfl) dX4_dropPipe_30 ⟨Nat.le_of_ble_eq_true rfl, Nat.le_of_ble_eq_true rfl⟩ (fun H locs hP hD hS => ?_)
    refine lv_aload_n hx hb dX4_dropPipe_33 rfl (lv_at hl 0 rfl) ?_
    refine va_get (D := D) (ci := 4) (v := .ref (a 0)) (C := RX4) (T := TX4) (N := 4) hx hb ht i_X4 hown hK hP 0 rfl rfl 0 (by decide) (ht _ wd_138) (fun _ h9 => h9) rfl dX4_dropPipe_34 ?_
    refine va_getN (D := D) (ci := 1) (v := .int (L8 3 1)) (C := RX1) (T := TX1) (N := 5) hx hb ht i_X1 hown hK hP 1 rfl rfl 4 (by decide) (va_Nw.use rfl (hN.1 _ _ _ _ _ _ wd_36)) (fun _ h9 => h9) rfl dX4_dropPipe_37 ?_
    cases h
    exact rt_i hx hb hr hlocks hS hP hK hD dX4_dropPipe_40
  · replace h := fp c3 h
    refine lv_ldc hx hb hown (ht _ wd_162) dX4_dropPipe_11 ?_
    cases h
    exact rt_i hx hb hr hlocks hS hP hK hD dX4_dropPipe_13
theorem dX4_open_0 : decode cX4_open 0 = .ok (.aload_n 0, 1) := by decide +kernel
theorem dX4_open_1 : decode cX4_open 1 = .ok (.getfield 10, 3) := by decide +kernel
theorem dX4_open_4 : decode cX4_open 4 = .ok (.iload_n 1, 1) := by decide +kernel
theorem dX4_open_5 : decode cX4_open 5 = .ok (.iload_n 2, 1) := by decide +kernel
theorem dX4_open_6 : decode cX4_open 6 = .ok (.iload_n 3, 1) := by decide +kernel
theorem dX4_open_7 : decode cX4_open 7 = .ok (.invokevirtual 76, 3) := by decide +kernel
theorem dX4_open_10 : decode cX4_open 10 = .ok (.iconst (-1), 1) := by decide +kernel
theorem dX4_open_11 : decode cX4_open 11 = .ok (.if_icmp .eq 6, 3) := by decide +kernel
theorem dX4_open_14 : decode cX4_open 14 = .ok (.ldc 41, 2) := by decide +kernel
theorem dX4_open_16 : decode cX4_open 16 = .ok (.ireturn, 1) := by decide +kernel
theorem dX4_open_17 : decode cX4_open 17 = .ok (.aload_n 0, 1) := by decide +kernel
theorem dX4_open_18 : decode cX4_open 18 = .ok (.getfield 19, 3) := by decide +kernel
theorem dX4_open_21 : decode cX4_open 21 = .ok (.aload_n 0, 1) := by decide +kernel
theorem dX4_open_22 : decode cX4_open 22 = .ok (.getfield 10, 3) := by decide +kernel
theorem dX4_open_25 : decode cX4_open 25 = .ok (.invokevirtual 47, 3) := by decide +kernel
theorem dX4_open_28 : decode cX4_open 28 = .ok (.aload_n 0, 1) := by decide +kernel
theorem dX4_open_29 : decode cX4_open 29 = .ok (.getfield 10, 3) := by decide +kernel
theorem dX4_open_32 : decode cX4_open 32 = .ok (.iload_n 1, 1) := by decide +kernel
theorem dX4_open_33 : decode cX4_open 33 = .ok (.iload_n 2, 1) := by decide +kernel
theorem dX4_open_34 : decode cX4_open 34 = .ok (.iload_n 3, 1) := by decide +kernel
theorem dX4_open_35 : decode cX4_open 35 = .ok (.invokevirtual 80, 3) := by decide +kernel
theorem dX4_open_38 : decode cX4_open 38 = .ok (.iconst 0, 1) := by decide +kernel
theorem dX4_open_39 : decode cX4_open 39 = .ok (.iload_n 3, 1) := by decide +kernel
theorem dX4_open_40 : decode cX4_open 40 = .ok (.iload_n 2, 1) := by decide +kernel
theorem dX4_open_41 : decode cX4_open 41 = .ok (.isub, 1) := by decide +kernel
theorem dX4_open_42 : decode cX4_open 42 = .ok (.iconst 1, 1) := by decide +kernel
theorem dX4_open_43 : decode cX4_open 43 = .ok (.iadd, 1) := by decide +kernel
theorem dX4_open_44 : decode cX4_open 44 = .ok (.invokestatic 84, 3) := by decide +kernel
theorem dX4_open_47 : decode cX4_open 47 = .ok (.ireturn, 1) := by decide +kernel
set_option maxHeartbeats 4000000 in
set_option maxRecDepth 100000 in
theorem c_X4_open (l : Launch) (D : va_G) (cI cC cO : ClassId) (o : Nat → Nat) (a : Nat → Nat) (g : Nat → Nat) (ga : Nat → Nat → Nat) (f : Nat → Nat) (n : Nat → Nat) (t : Nat → Nat) (r : Nat → Nat) (L : Mm) (K : Mm) (P : Nat → Nat) (Hs : Nat → Mm) (S : Mm) (N : Mm) (T : Mm) (R : Mm) (x1 x2 x3 : Int32) (res : Int32 × Mm × Mm × (Nat → Nat) × (Nat → Mm)) (sz : Nat) (h : F_X4_open L K P Hs S N T R x1 x2 x3 = some res) : Met l yX4_open (Cond.code yX4_open cX4_open 4 (Option.some Jvm.ClassFile.FieldType.int) :: lw_g) ({ frames := 3, cells := 0, slots := 0, locals := 102 } : Room) (va_Pc [.ref (o 0), .int x1, .int x2, .int x3] (pS D cI cC cO sz (wX4 o a g ga f n t r cI cC cO L K P Hs S N T R))) (QI D cI cC cO (va_A (wX4 o a g ga f n t r cI cC cO L K P Hs S N T R) sz) (wX4 o a g ga f n t r cI cC cO res.2.1 res.2.2.1 res.2.2.2.1 res.2.2.2.2 S N T R) res.1) 0 0 (va_A (wX4 o a g ga f n t r cI cC cO L K P Hs S N T R) sz) := by
  refine Met.ofW (cc := cX4_open) (maxL := 4) (ret := (Option.some Jvm.ClassFile.FieldType.int)) (by decide) rfl ?_
  intro p e s m args below meth c s₁ B hml hv
  obtain ⟨rfl, rfl, hP, hK, hD0, hN⟩ := hv
  have hx := B.exec
  have hb := B.bytes
  have hr := B.returns
  have ht : ∀ w ∈ lw_g, w.before ([.ref (o 0), .int x1, .int x2, .int x3] : List Value).toArray s = true := fun w hw => atoms_spec (ws := Cond.code yX4_open cX4_open 4 (Option.some Jvm.ClassFile.FieldType.int) :: lw_g) B.pre w (List.mem_cons_of_mem _ hw)
  have hown : s.vm.findClass RX4 = some m.cls := findClass_of_methodNamed B.named
  have hlocks := B.notSynchronized
  have hD := hD0.self (sz := s.heap.size)
  generalize hAe : va_A (wX4 o a g ga f n t r cI cC cO L K P Hs S N T R) s.heap.size = A at hD ⊢
  have hA : ∀ q : Nat, s.heap.size ≤ q → A q := fun q hq => by rw [← hAe]; exact Or.inr hq
  have hS : va_S A s.heap s.heap [] := va_S.rf
  have hl := lv_entry ([.ref (o 0), .int x1, .int x2, .int x3]) (n := 4) (Nat.le_of_ble_eq_true rfl)
  rw [lg_entry_eq]
  generalize (lg_sl ([.ref (o 0), .int x1, .int x2, .int x3]) ++ List.replicate (4 - (lg_sl ([.ref (o 0), .int x1, .int x2, .int x3])).length) Slot.unset).toArray = ls at hl ⊢
  have hl : lv_has ls 4 [(0, .ref (o 0)), (1, .int x1), (2, .int x2), (3, .int x3)] := hl
  unfold F_X4_open at h
  refine lv_aload_n hx hb dX4_open_0 rfl (lv_at hl 0 rfl) ?_
  refine va_get (D := D) (ci := 4) (v := .ref (a 0)) (C := RX4) (T := TX4) (N := 4) hx hb ht i_X4 hown hK hP 0 rfl rfl 0 (by decide) (ht _ wd_138) (fun _ h9 => h9) rfl dX4_open_1 ?_
  refine lv_iload_n hx hb dX4_open_4 rfl (lv_at hl 1 rfl) ?_
  refine lv_iload_n hx hb dX4_open_5 rfl (lv_at hl 2 rfl) ?_
  refine lv_iload_n hx hb dX4_open_6 rfl (lv_at hl 3 rfl) ?_
  obtain ⟨u1, e2, h⟩ := b1_ok h
  refine cp_Vi (ws' := (wX4 o a g ga f n t r cI cC cO L K P Hs S N T R)) ⟨hx, hb, hml, hown, ht⟩ (c_X1_badOfOpening l D cI cC cO a L x1 x2 x3 _ _ e2) (cwv 3 ht wd_234 wd_2 wd_231 wd_232 wd_233 (by decide +kernel) rfl rfl ⟨Nat.le_of_ble_eq_true rfl, Nat.le_of_ble_eq_true rfl⟩) 1 0 rfl rfl rfl hK hP hD hS hA hN (pm1_a _ _ _ _ _ _) (pm2_a _ _ _ _ _ _) rfl hl.1 rfl (Nat.le_of_ble_eq_true rfl) dX4_open_7 ⟨Nat.le_of_ble_eq_true rfl, Nat.le_of_ble_eq_true rfl⟩ (fun H locs hP hD hS => ?_)
  refine lv_iconst (v := (-1 : Int32)) hx hb dX4_open_10 (by decide) ?_
  refine lv_icmp_eq (tgt := 17) hx hb dX4_open_11 (by decide) (fun c3 => ?_) (fun c3 => ?_)
  · replace h := fp c3 h
    refine lv_aload_n hx hb dX4_open_17 rfl (lv_at hl 0 rfl) ?_
    refine va_get (D := D) (ci := 4) (v := .ref (g 0)) (C := RX4) (T := TX4) (N := 4) hx hb ht i_X4 hown hK hP 0 rfl rfl 1 (by decide) (ht _ wd_139) (fun _ h9 => h9) rfl dX4_open_18 ?_
    refine lv_aload_n hx hb dX4_open_21 rfl (lv_at hl 0 rfl) ?_
    refine va_get (D := D) (ci := 4) (v := .ref (a 0)) (C := RX4) (T := TX4) (N := 4) hx hb ht i_X4 hown hK hP 0 rfl rfl 0 (by decide) (ht _ wd_138) (fun _ h9 => h9) rfl dX4_open_22 ?_
    obtain ⟨K4, P5, Hs6, e7, h⟩ := b3_ok h
    refine cp_Vv (ws' := (wX4 o a g ga f n t r cI cC cO L K4 P5 Hs6 S N T R)) ⟨hx, hb, hml, hown, ht⟩ (c_X0_keep l D cI cC cO g ga a K P Hs L _ _ e7) (cwv 1 ht wd_171 wd_3 wd_168 wd_169 wd_170 (by decide +kernel) rfl rfl ⟨Nat.le_of_ble_eq_true rfl, Nat.le_of_ble_eq_true rfl⟩) 0 0 rfl rfl rfl hK hP hD hS hA hN (pm1_ga _ _ _ _ _ _) (pm2_ga _ _ _ _ _ _) rfl hl.1 rfl (Nat.le_of_ble_eq_true rfl) dX4_open_25 ⟨Nat.le_of_ble_eq_true rfl, Nat.le_of_ble_eq_true rfl⟩ (fun H locs hP hD hS => ?_)
    refine lv_aload_n hx hb dX4_open_28 rfl (lv_at hl 0 rfl) ?_
    refine va_get (D := D) (ci := 4) (v := .ref (a 0)) (C := RX4) (T := TX4) (N := 4) hx hb ht i_X4 hown hK hP 0 rfl rfl 0 (by decide) (ht _ wd_138) (fun _ h9 => h9) rfl dX4_open_29 ?_
    refine lv_iload_n hx hb dX4_open_32 rfl (lv_at hl 1 rfl) ?_
    refine lv_iload_n hx hb dX4_open_33 rfl (lv_at hl 2 rfl) ?_
    refine lv_iload_n hx hb dX4_open_34 rfl (lv_at hl 3 rfl) ?_
    obtain ⟨L8, e9, h⟩ := b1_ok h
    refine cp_Vv (ws' := (wX4 o a g ga f n t r cI cC cO L8 K4 P5 Hs6 S N T R)) ⟨hx, hb, hml, hown, ht⟩ (c_X1_setOpening l D cI cC cO a L x1 x2 x3 _ _ e9) (cwv 3 ht wd_214 wd_2 wd_240 wd_212 wd_213 (by decide +kernel) rfl rfl ⟨Nat.le_of_ble_eq_true rfl, Nat.le_of_ble_eq_true rfl⟩) 1 0 rfl rfl rfl hK hP hD hS hA hN (pm1_a _ _ _ _ _ _) (pm2_a _ _ _ _ _ _) rfl hl.1 rfl (Nat.le_of_ble_eq_true rfl) dX4_open_35 ⟨Nat.le_of_ble_eq_true rfl, Nat.le_of_ble_eq_true rfl⟩ (fun H locs hP hD hS => ?_)
    refine lv_iconst (v := (0 : Int32)) hx hb dX4_open_38 (by decide) ?_
    refine lv_iload_n hx hb dX4_open_39 rfl (lv_at hl 3 rfl) ?_
    refine lv_iload_n hx hb dX4_open_40 rfl (lv_at hl 2 rfl) ?_
    refine lv_isub hx hb dX4_open_41 ?_
    refine lv_iconst (v := (1 : Int32)) hx hb dX4_open_42 (by decide) ?_
    refine lv_iadd hx hb dX4_open_43 ?_
    refine va_mmax hx hb (hml.trans hl.1.symm) hown (ht _ wd_241) (ht _ wd_242) (ht _ wd_8) (ht _ wd_243) (Nat.le_of_ble_eq_true rfl) (Nat.le_of_ble_eq_true rfl) (Nat.le_of_ble_eq_true rfl) (Nat.le_of_ble_eq_true rfl) dX4_open_44 ?_
    cases h
    exact rt_i hx hb hr hlocks hS hP hK hD dX4_open_47
  · replace h := fn c3 h
    refine lv_ldc hx hb hown (ht _ wd_162) dX4_open_14 ?_
    cases h
    exact rt_i hx hb hr hlocks hS hP hK hD dX4_open_16
