theorem dX4_widen_0 : decode cX4_widen 0 = .ok (.aload_n 0, 1) := by decide +kernel
theorem dX4_widen_1 : decode cX4_widen 1 = .ok (.getfield 10, 3) := by decide +kernel
theorem dX4_widen_4 : decode cX4_widen 4 = .ok (.iload_n 1, 1) := by decide +kernel
theorem dX4_widen_5 : decode cX4_widen 5 = .ok (.invokevirtual 64, 3) := by decide +kernel
theorem dX4_widen_8 : decode cX4_widen 8 = .ok (.ifCond .eq 13, 3) := by decide +kernel
theorem dX4_widen_11 : decode cX4_widen 11 = .ok (.iload_n 2, 1) := by decide +kernel
theorem dX4_widen_12 : decode cX4_widen 12 = .ok (.iconst 1, 1) := by decide +kernel
theorem dX4_widen_13 : decode cX4_widen 13 = .ok (.bipush 9, 2) := by decide +kernel
theorem dX4_widen_15 : decode cX4_widen 15 = .ok (.invokestatic 89, 3) := by decide +kernel
theorem dX4_widen_18 : decode cX4_widen 18 = .ok (.ifCond .ne 6, 3) := by decide +kernel
theorem dX4_widen_21 : decode cX4_widen 21 = .ok (.ldc 41, 2) := by decide +kernel
theorem dX4_widen_23 : decode cX4_widen 23 = .ok (.ireturn, 1) := by decide +kernel
theorem dX4_widen_24 : decode cX4_widen 24 = .ok (.aload_n 0, 1) := by decide +kernel
theorem dX4_widen_25 : decode cX4_widen 25 = .ok (.getfield 19, 3) := by decide +kernel
theorem dX4_widen_28 : decode cX4_widen 28 = .ok (.aload_n 0, 1) := by decide +kernel
theorem dX4_widen_29 : decode cX4_widen 29 = .ok (.getfield 10, 3) := by decide +kernel
theorem dX4_widen_32 : decode cX4_widen 32 = .ok (.invokevirtual 47, 3) := by decide +kernel
theorem dX4_widen_35 : decode cX4_widen 35 = .ok (.aload_n 0, 1) := by decide +kernel
theorem dX4_widen_36 : decode cX4_widen 36 = .ok (.getfield 10, 3) := by decide +kernel
theorem dX4_widen_39 : decode cX4_widen 39 = .ok (.iload_n 1, 1) := by decide +kernel
theorem dX4_widen_40 : decode cX4_widen 40 = .ok (.iconst 3, 1) := by decide +kernel
theorem dX4_widen_41 : decode cX4_widen 41 = .ok (.invokevirtual 93, 3) := by decide +kernel
theorem dX4_widen_44 : decode cX4_widen 44 = .ok (.istore_n 3, 1) := by decide +kernel
theorem dX4_widen_45 : decode cX4_widen 45 = .ok (.aload_n 0, 1) := by decide +kernel
theorem dX4_widen_46 : decode cX4_widen 46 = .ok (.getfield 10, 3) := by decide +kernel
theorem dX4_widen_49 : decode cX4_widen 49 = .ok (.iload_n 1, 1) := by decide +kernel
theorem dX4_widen_50 : decode cX4_widen 50 = .ok (.iconst 3, 1) := by decide +kernel
theorem dX4_widen_51 : decode cX4_widen 51 = .ok (.iload_n 2, 1) := by decide +kernel
theorem dX4_widen_52 : decode cX4_widen 52 = .ok (.invokevirtual 96, 3) := by decide +kernel
theorem dX4_widen_55 : decode cX4_widen 55 = .ok (.iload_n 3, 1) := by decide +kernel
theorem dX4_widen_56 : decode cX4_widen 56 = .ok (.ireturn, 1) := by decide +kernel
set_option maxHeartbeats 4000000 in
set_option maxRecDepth 100000 in
theorem c_X4_widen (l : Launch) (D : va_G) (cI cC cO : ClassId) (o : Nat → Nat) (a : Nat → Nat) (g : Nat → Nat) (ga : Nat → Nat → Nat) (f : Nat → Nat) (n : Nat → Nat) (t : Nat → Nat) (r : Nat → Nat) (L : Mm) (K : Mm) (P : Nat → Nat) (Hs : Nat → Mm) (S : Mm) (N : Mm) (T : Mm) (R : Mm) (x1 x2 : Int32) (res : Int32 × Mm × Mm × (Nat → Nat) × (Nat → Mm)) (sz : Nat) (h : F_X4_widen L K P Hs S N T R x1 x2 = some res) : Met l yX4_widen (Cond.code yX4_widen cX4_widen 4 (Option.some Jvm.ClassFile.FieldType.int) :: lw_g) ({ frames := 3, cells := 0, slots := 0, locals := 102 } : Room) (va_Pc [.ref (o 0), .int x1, .int x2] (pS D cI cC cO sz (wX4 o a g ga f n t r cI cC cO L K P Hs S N T R))) (QI D cI cC cO (va_A (wX4 o a g ga f n t r cI cC cO L K P Hs S N T R) sz) (wX4 o a g ga f n t r cI cC cO res.2.1 res.2.2.1 res.2.2.2.1 res.2.2.2.2 S N T R) res.1) 0 0 (va_A (wX4 o a g ga f n t r cI cC cO L K P Hs S N T R) sz) := by
  refine Met.ofW (cc := cX4_widen) (maxL := 4) (ret := (Option.some Jvm.ClassFile.FieldType.int)) (by decide) rfl ?_
  intro p e s m args below meth c s₁ B hml hv
  obtain ⟨rfl, rfl, hP, hK, hD0, hN⟩ := hv
  have hx := B.exec
  have hb := B.bytes
  have hr := B.returns
  have ht : ∀ w ∈ lw_g, w.before ([.ref (o 0), .int x1, .int x2] : List Value).toArray s = true := fun w hw => atoms_spec (ws := Cond.code yX4_widen cX4_widen 4 (Option.some Jvm.ClassFile.FieldType.int) :: lw_g) B.pre w (List.mem_cons_of_mem _ hw)
  have hown : s.vm.findClass RX4 = some m.cls := findClass_of_methodNamed B.named
  have hlocks := B.notSynchronized
  have hD := hD0.self (sz := s.heap.size)
  generalize hAe : va_A (wX4 o a g ga f n t r cI cC cO L K P Hs S N T R) s.heap.size = A at hD ⊢
  have hA : ∀ q : Nat, s.heap.size ≤ q → A q := fun q hq => by rw [← hAe]; exact Or.inr hq
  have hS : va_S A s.heap s.heap [] := va_S.rf
  have hl := lv_entry ([.ref (o 0), .int x1, .int x2]) (n := 4) (Nat.le_of_ble_eq_true rfl)
  rw [lg_entry_eq]
  generalize (lg_sl ([.ref (o 0), .int x1, .int x2]) ++ List.replicate (4 - (lg_sl ([.ref (o 0), .int x1, .int x2])).length) Slot.unset).toArray = ls at hl ⊢
  have hl : lv_has ls 4 [(0, .ref (o 0)), (1, .int x1), (2, .int x2)] := hl
  unfold F_X4_widen at h
  refine lv_aload_n hx hb dX4_widen_0 rfl (lv_at hl 0 rfl) ?_
  refine va_get (D := D) (ci := 4) (v := .ref (a 0)) (C := RX4) (T := TX4) (N := 4) hx hb ht i_X4 hown hK hP 0 rfl rfl 0 (by decide) (ht _ wd_138) (fun _ h9 => h9) rfl dX4_widen_1 ?_
  refine lv_iload_n hx hb dX4_widen_4 rfl (lv_at hl 1 rfl) ?_
  obtain ⟨u1, e2, h⟩ := b1_ok h
  refine cp_Vi (ws' := (wX4 o a g ga f n t r cI cC cO L K P Hs S N T R)) ⟨hx, hb, hml, hown, ht⟩ (c_X1_isPipe l D cI cC cO a L x1 _ _ e2) (cwv 1 ht wd_222 wd_2 wd_219 wd_220 wd_221 (by decide +kernel) rfl rfl ⟨Nat.le_of_ble_eq_true rfl, Nat.le_of_ble_eq_true rfl⟩) 1 0 rfl rfl rfl hK hP hD hS hA hN (pm1_a _ _ _ _ _ _) (pm2_a _ _ _ _ _ _) rfl hl.1 rfl (Nat.le_of_ble_eq_true rfl) dX4_widen_5 ⟨Nat.le_of_ble_eq_true rfl, Nat.le_of_ble_eq_true rfl⟩ (fun H locs hP hD hS => ?_)
  refine lv_if_eq (tgt := 21) hx hb dX4_widen_8 (by decide) (fun c3 => ?_) (fun c3 => ?_)
  · replace h := fp c3 h
    refine lv_ldc hx hb hown (ht _ wd_162) dX4_widen_21 ?_
    cases h
    exact rt_i hx hb hr hlocks hS hP hK hD dX4_widen_23
  · replace h := fn c3 h
    refine lv_iload_n hx hb dX4_widen_11 rfl (lv_at hl 2 rfl) ?_
    refine lv_iconst (v := (1 : Int32)) hx hb dX4_widen_12 (by decide) ?_
    refine lv_bipush (v := (9 : Int32)) hx hb dX4_widen_13 (by decide) ?_
    obtain ⟨u4, e5, h⟩ := b1_ok h
    refine cp_Si (ws' := (wX4 o a g ga f n t r cI cC cO L K P Hs S N T R)) ⟨hx, hb, hml, hown, ht⟩ (c_X4_within l D cI cC cO x2 (1 : Int32) (9 : Int32) _ _ e5) (cwst 3 ht wd_161 wd_1 wd_239 wd_160 (by decide +kernel) rfl rfl ⟨Nat.le_of_ble_eq_true rfl, Nat.le_of_ble_eq_true rfl⟩) hK hP hD hS hA hN (pm1_0 _) (pm2_0 _) rfl hl.1 rfl (Nat.le_of_ble_eq_true rfl) dX4_widen_15 ⟨Nat.le_of_ble_eq_true rfl, Nat.le_of_ble_eq_true rfl⟩ (fun H locs hP hD hS => ?_)
    refine lv_if_ne (tgt := 24) hx hb dX4_widen_18 (by decide) (fun c6 => ?_) (fun c6 => ?_)
    · replace h := fn c6 h
      refine lv_aload_n hx hb dX4_widen_24 rfl (lv_at hl 0 rfl) ?_
      refine va_get (D := D) (ci := 4) (v := .ref (g 0)) (C := RX4) (T := TX4) (N := 4) hx hb ht i_X4 hown hK hP 0 rfl rfl 1 (by decide) (ht _ wd_139) (fun _ h9 => h9) rfl dX4_widen_25 ?_
      refine lv_aload_n hx hb dX4_widen_28 rfl (lv_at hl 0 rfl) ?_
      refine va_get (D := D) (ci := 4) (v := .ref (a 0)) (C := RX4) (T := TX4) (N := 4) hx hb ht i_X4 hown hK hP 0 rfl rfl 0 (by decide) (ht _ wd_138) (fun _ h9 => h9) rfl dX4_widen_29 ?_
      obtain ⟨K7, P8, Hs9, e10, h⟩ := b3_ok h
      refine cp_Vv (ws' := (wX4 o a g ga f n t r cI cC cO L K7 P8 Hs9 S N T R)) ⟨hx, hb, hml, hown, ht⟩ (c_X0_keep l D cI cC cO g ga a K P Hs L _ _ e10) (cwv 1 ht wd_171 wd_3 wd_168 wd_169 wd_170 (by decide +kernel) rfl rfl ⟨Nat.le_of_ble_eq_true rfl, Nat.le_of_ble_eq_true rfl⟩) 0 0 rfl rfl rfl hK hP hD hS hA hN (pm1_ga _ _ _ _ _ _) (pm2_ga _ _ _ _ _ _) rfl hl.1 rfl (Nat.le_of_ble_eq_true rfl) dX4_widen_32 ⟨Nat.le_of_ble_eq_true rfl, Nat.le_of_ble_eq_true rfl⟩ (fun H locs hP hD hS => ?_)
      refine lv_aload_n hx hb dX4_widen_35 rfl (lv_at hl 0 rfl) ?_
      refine va_get (D := D) (ci := 4) (v := .ref (a 0)) (C := RX4) (T := TX4) (N := 4) hx hb ht i_X4 hown hK hP 0 rfl rfl 0 (by decide) (ht _ wd_138) (fun _ h9 => h9) rfl dX4_widen_36 ?_
      refine lv_iload_n hx hb dX4_widen_39 rfl (lv_at hl 1 rfl) ?_
      refine lv_iconst (v := (3 : Int32)) hx hb dX4_widen_40 (by decide) ?_
      obtain ⟨u11, e12, h⟩ := b1_ok h
      refine cp_Vi (ws' := (wX4 o a g ga f n t r cI cC cO L K7 P8 Hs9 S N T R)) ⟨hx, hb, hml, hown, ht⟩ (c_X1_partOf l D cI cC cO a L x1 (3 : Int32) _ _ e12) (cwv 2 ht wd_251 wd_2 wd_248 wd_249 wd_250 (by decide +kernel) rfl rfl ⟨Nat.le_of_ble_eq_true rfl, Nat.le_of_ble_eq_true rfl⟩) 1 0 rfl rfl rfl hK hP hD hS hA hN (pm1_a _ _ _ _ _ _) (pm2_a _ _ _ _ _ _) rfl hl.1 rfl (Nat.le_of_ble_eq_true rfl) dX4_widen_41 ⟨Nat.le_of_ble_eq_true rfl, Nat.le_of_ble_eq_true rfl⟩ (fun H locs hP hD hS => ?_)
      refine lv_istore_n (lv' := [(3, .int u11), (0, .ref (o 0)), (1, .int x1), (2, .int x2)]) hx hb dX4_widen_44 rfl hl (by decide) rfl (fun ls hl => ?_)
      refine lv_aload_n hx hb dX4_widen_45 rfl (lv_at hl 1 rfl) ?_
      refine va_get (D := D) (ci := 4) (v := .ref (a 0)) (C := RX4) (T := TX4) (N := 4) hx hb ht i_X4 hown hK hP 0 rfl rfl 0 (by decide) (ht _ wd_138) (fun _ h9 => h9) rfl dX4_widen_46 ?_
      refine lv_iload_n hx hb dX4_widen_49 rfl (lv_at hl 2 rfl) ?_
      refine lv_iconst (v := (3 : Int32)) hx hb dX4_widen_50 (by decide) ?_
      refine lv_iload_n hx hb dX4_widen_51 rfl (lv_at hl 3 rfl) ?_
      obtain ⟨L13, e14, h⟩ := b1_ok h
      refine cp_Vv (ws' := (wX4 o a g ga f n t r cI cC cO L13 K7 P8 Hs9 S N T R)) ⟨hx, hb, hml, hown, ht⟩ (c_X1_setPart l D cI cC cO a L x1 (3 : Int32) x2 _ _ e14) (cwv 3 ht wd_210 wd_2 wd_252 wd_208 wd_209 (by decide +kernel) rfl rfl ⟨Nat.le_of_ble_eq_true rfl, Nat.le_of_ble_eq_true rfl⟩) 1 0 rfl rfl rfl hK hP hD hS hA hN (pm1_a _ _ _ _ _ _) (pm2_a _ _ _ _ _ _) rfl hl.1 rfl (Nat.le_of_ble_eq_true rfl) dX4_widen_52 ⟨Nat.le_of_ble_eq_true rfl, Nat.le_of_ble_eq_true rfl⟩ (fun H locs hP hD hS => ?_)
      refine lv_iload_n hx hb dX4_widen_55 rfl (lv_at hl 0 rfl) ?_
      cases h
      exact rt_i hx hb hr hlocks hS hP hK hD dX4_widen_56
    · replace h := fp c6 h
      refine lv_ldc hx hb hown (ht _ wd_162) dX4_widen_21 ?_
      cases h
      exact rt_i hx hb hr hlocks hS hP hK hD dX4_widen_23
theorem dX4_units_0 : decode cX4_units 0 = .ok (.aload_n 0, 1) := by decide +kernel
theorem dX4_units_1 : decode cX4_units 1 = .ok (.getfield 10, 3) := by decide +kernel
theorem dX4_units_4 : decode cX4_units 4 = .ok (.iload_n 1, 1) := by decide +kernel
theorem dX4_units_5 : decode cX4_units 5 = .ok (.iload_n 2, 1) := by decide +kernel
theorem dX4_units_6 : decode cX4_units 6 = .ok (.invokevirtual 99, 3) := by decide +kernel
theorem dX4_units_9 : decode cX4_units 9 = .ok (.iconst (-1), 1) := by decide +kernel
theorem dX4_units_10 : decode cX4_units 10 = .ok (.if_icmp .eq 6, 3) := by decide +kernel
theorem dX4_units_13 : decode cX4_units 13 = .ok (.ldc 41, 2) := by decide +kernel
theorem dX4_units_15 : decode cX4_units 15 = .ok (.ireturn, 1) := by decide +kernel
theorem dX4_units_16 : decode cX4_units 16 = .ok (.aload_n 0, 1) := by decide +kernel
theorem dX4_units_17 : decode cX4_units 17 = .ok (.getfield 19, 3) := by decide +kernel
theorem dX4_units_20 : decode cX4_units 20 = .ok (.aload_n 0, 1) := by decide +kernel
theorem dX4_units_21 : decode cX4_units 21 = .ok (.getfield 10, 3) := by decide +kernel
theorem dX4_units_24 : decode cX4_units 24 = .ok (.invokevirtual 47, 3) := by decide +kernel
theorem dX4_units_27 : decode cX4_units 27 = .ok (.aload_n 0, 1) := by decide +kernel
theorem dX4_units_28 : decode cX4_units 28 = .ok (.getfield 10, 3) := by decide +kernel
theorem dX4_units_31 : decode cX4_units 31 = .ok (.getfield 102, 3) := by decide +kernel
theorem dX4_units_34 : decode cX4_units 34 = .ok (.iload_n 1, 1) := by decide +kernel
theorem dX4_units_35 : decode cX4_units 35 = .ok (.iaload, 1) := by decide +kernel
theorem dX4_units_36 : decode cX4_units 36 = .ok (.istore_n 3, 1) := by decide +kernel
theorem dX4_units_37 : decode cX4_units 37 = .ok (.aload_n 0, 1) := by decide +kernel
theorem dX4_units_38 : decode cX4_units 38 = .ok (.getfield 10, 3) := by decide +kernel
theorem dX4_units_41 : decode cX4_units 41 = .ok (.getfield 102, 3) := by decide +kernel
theorem dX4_units_44 : decode cX4_units 44 = .ok (.iload_n 1, 1) := by decide +kernel
theorem dX4_units_45 : decode cX4_units 45 = .ok (.iload_n 2, 1) := by decide +kernel
theorem dX4_units_46 : decode cX4_units 46 = .ok (.iastore, 1) := by decide +kernel
theorem dX4_units_47 : decode cX4_units 47 = .ok (.iload_n 3, 1) := by decide +kernel
theorem dX4_units_48 : decode cX4_units 48 = .ok (.ireturn, 1) := by decide +kernel
set_option maxHeartbeats 4000000 in
set_option maxRecDepth 100000 in
theorem c_X4_units (l : Launch) (D : va_G) (cI cC cO : ClassId) (o : Nat → Nat) (a : Nat → Nat) (g : Nat → Nat) (ga : Nat → Nat → Nat) (f : Nat → Nat) (n : Nat → Nat) (t : Nat → Nat) (r : Nat → Nat) (L : Mm) (K : Mm) (P : Nat → Nat) (Hs : Nat → Mm) (S : Mm) (N : Mm) (T : Mm) (R : Mm) (x1 x2 : Int32) (res : Int32 × Mm × Mm × (Nat → Nat) × (Nat → Mm)) (sz : Nat) (h : F_X4_units L K P Hs S N T R x1 x2 = some res) : Met l yX4_units (Cond.code yX4_units cX4_units 4 (Option.some Jvm.ClassFile.FieldType.int) :: lw_g) ({ frames := 3, cells := 0, slots := 0, locals := 102 } : Room) (va_Pc [.ref (o 0), .int x1, .int x2] (pS D cI cC cO sz (wX4 o a g ga f n t r cI cC cO L K P Hs S N T R))) (QI D cI cC cO (va_A (wX4 o a g ga f n t r cI cC cO L K P Hs S N T R) sz) (wX4 o a g ga f n t r cI cC cO res.2.1 res.2.2.1 res.2.2.2.1 res.2.2.2.2 S N T R) res.1) 0 0 (va_A (wX4 o a g ga f n t r cI cC cO L K P Hs S N T R) sz) := by
  refine Met.ofW (cc := cX4_units) (maxL := 4) (ret := (Option.some Jvm.ClassFile.FieldType.int)) (by decide) rfl ?_
  intro p e s m args below meth c s₁ B hml hv
  obtain ⟨rfl, rfl, hP, hK, hD0, hN⟩ := hv
  have hx := B.exec
  have hb := B.bytes
  have hr := B.returns
  have ht : ∀ w ∈ lw_g, w.before ([.ref (o 0), .int x1, .int x2] : List Value).toArray s = true := fun w hw => atoms_spec (ws := Cond.code yX4_units cX4_units 4 (Option.some Jvm.ClassFile.FieldType.int) :: lw_g) B.pre w (List.mem_cons_of_mem _ hw)
  have hown : s.vm.findClass RX4 = some m.cls := findClass_of_methodNamed B.named
  have hlocks := B.notSynchronized
  have hD := hD0.self (sz := s.heap.size)
  generalize hAe : va_A (wX4 o a g ga f n t r cI cC cO L K P Hs S N T R) s.heap.size = A at hD ⊢
  have hA : ∀ q : Nat, s.heap.size ≤ q → A q := fun q hq => by rw [← hAe]; exact Or.inr hq
  have hS : va_S A s.heap s.heap [] := va_S.rf
  have hl := lv_entry ([.ref (o 0), .int x1, .int x2]) (n := 4) (Nat.le_of_ble_eq_true rfl)
  rw [lg_entry_eq]
  generalize (lg_sl ([.ref (o 0), .int x1, .int x2]) ++ List.replicate (4 - (lg_sl ([.ref (o 0), .int x1, .int x2])).length) Slot.unset).toArray = ls at hl ⊢
  have hl : lv_has ls 4 [(0, .ref (o 0)), (1, .int x1), (2, .int x2)] := hl
  unfold F_X4_units at h
  refine lv_aload_n hx hb dX4_units_0 rfl (lv_at hl 0 rfl) ?_
  refine va_get (D := D) (ci := 4) (v := .ref (a 0)) (C := RX4) (T := TX4) (N := 4) hx hb ht i_X4 hown hK hP 0 rfl rfl 0 (by decide) (ht _ wd_138) (fun _ h9 => h9) rfl dX4_units_1 ?_
  refine lv_iload_n hx hb dX4_units_4 rfl (lv_at hl 1 rfl) ?_
  refine lv_iload_n hx hb dX4_units_5 rfl (lv_at hl 2 rfl) ?_
  obtain ⟨u1, e2, h⟩ := b1_ok h
  refine cp_Vi (ws' := (wX4 o a g ga f n t r cI cC cO L K P Hs S N T R)) ⟨hx, hb, hml, hown, ht⟩ (c_X1_badOfUnits l D cI cC cO a L x1 x2 _ _ e2) (cwv 2 ht wd_260 wd_2 wd_257 wd_258 wd_259 (by decide +kernel) rfl rfl ⟨Nat.le_of_ble_eq_true rfl, Nat.le_of_ble_eq_true rfl⟩) 1 0 rfl rfl rfl hK hP hD hS hA hN (pm1_a _ _ _ _ _ _) (pm2_a _ _ _ _ _ _) rfl hl.1 rfl (Nat.le_of_ble_eq_true rfl) dX4_units_6 ⟨Nat.le_of_ble_eq_true rfl, Nat.le_of_ble_eq_true rfl⟩ (fun H locs hP hD hS => ?_)
  refine lv_iconst (v := (-1 : Int32)) hx hb dX4_units_9 (by decide) ?_
  refine lv_icmp_eq (tgt := 16) hx hb dX4_units_10 (by decide) (fun c3 => ?_) (fun c3 => ?_)
  · replace h := fp c3 h
    refine lv_aload_n hx hb dX4_units_16 rfl (lv_at hl 0 rfl) ?_
    refine va_get (D := D) (ci := 4) (v := .ref (g 0)) (C := RX4) (T := TX4) (N := 4) hx hb ht i_X4 hown hK hP 0 rfl rfl 1 (by decide) (ht _ wd_139) (fun _ h9 => h9) rfl dX4_units_17 ?_
    refine lv_aload_n hx hb dX4_units_20 rfl (lv_at hl 0 rfl) ?_
    refine va_get (D := D) (ci := 4) (v := .ref (a 0)) (C := RX4) (T := TX4) (N := 4) hx hb ht i_X4 hown hK hP 0 rfl rfl 0 (by decide) (ht _ wd_138) (fun _ h9 => h9) rfl dX4_units_21 ?_
    obtain ⟨K4, P5, Hs6, e7, h⟩ := b3_ok h
    refine cp_Vv (ws' := (wX4 o a g ga f n t r cI cC cO L K4 P5 Hs6 S N T R)) ⟨hx, hb, hml, hown, ht⟩ (c_X0_keep l D cI cC cO g ga a K P Hs L _ _ e7) (cwv 1 ht wd_171 wd_3 wd_168 wd_169 wd_170 (by decide +kernel) rfl rfl ⟨Nat.le_of_ble_eq_true rfl, Nat.le_of_ble_eq_true rfl⟩) 0 0 rfl rfl rfl hK hP hD hS hA hN (pm1_ga _ _ _ _ _ _) (pm2_ga _ _ _ _ _ _) rfl hl.1 rfl (Nat.le_of_ble_eq_true rfl) dX4_units_24 ⟨Nat.le_of_ble_eq_true rfl, Nat.le_of_ble_eq_true rfl⟩ (fun H locs hP hD hS => ?_)
    refine lv_aload_n hx hb dX4_units_27 rfl (lv_at hl 0 rfl) ?_
    refine va_get (D := D) (ci := 4) (v := .ref (a 0)) (C := RX4) (T := TX4) (N := 4) hx hb ht i_X4 hown hK hP 0 rfl rfl 0 (by decide) (ht _ wd_138) (fun _ h9 => h9) rfl dX4_units_28 ?_
    refine va_getN (D := D) (ci := 1) (v := .ref (a 1)) (C := RX1) (T := TX1) (N := 5) hx hb ht i_X1 hown hK hP 1 rfl rfl 0 (by decide) (va_Nw.use rfl (hN.1 _ _ _ _ _ _ wd_26)) (fun _ h9 => h9) rfl dX4_units_31 ?_
    refine lv_iload_n hx hb dX4_units_34 rfl (lv_at hl 1 rfl) ?_
    obtain ⟨i8, h⟩ := ck_ok h
    refine va_iald hx hb hK hP 2 0 rfl rfl i8 dX4_units_35 ?_
    refine lv_istore_n (lv' := [(3, .int (L 0 x1.toNatClampNeg)), (0, .ref (o 0)), (1, .int x1), (2, .int x2)]) hx hb dX4_units_36 rfl hl (by decide) rfl (fun ls hl => ?_)
    refine lv_aload_n hx hb dX4_units_37 rfl (lv_at hl 1 rfl) ?_
    refine va_get (D := D) (ci := 4) (v := .ref (a 0)) (C := RX4) (T := TX4) (N := 4) hx hb ht i_X4 hown hK hP 0 rfl rfl 0 (by decide) (ht _ wd_138) (fun _ h9 => h9) rfl dX4_units_38 ?_
    refine va_getN (D := D) (ci := 1) (v := .ref (a 1)) (C := RX1) (T := TX1) (N := 5) hx hb ht i_X1 hown hK hP 1 rfl rfl 0 (by decide) (va_Nw.use rfl (hN.1 _ _ _ _ _ _ wd_26)) (fun _ h9 => h9) rfl dX4_units_41 ?_
    refine lv_iload_n hx hb dX4_units_44 rfl (lv_at hl 2 rfl) ?_
    refine lv_iload_n hx hb dX4_units_45 rfl (lv_at hl 3 rfl) ?_
    obtain ⟨i9, h⟩ := ck_ok h
    refine va_iast hx hb hK hP hD hS 2 0 rfl rfl i9 dX4_units_46 (fun H locs hP hD hS => ?_)
    obtain ⟨L10, e11, h⟩ := sv_ok h
    have hP : va_P D classes (wX4 o a g ga f n t r cI cC cO L10 K4 P5 Hs6 S N T R) H := by rw [← e11]; exact hP
    have hD : va_D A (wX4 o a g ga f n t r cI cC cO L10 K4 P5 Hs6 S N T R) := by rw [← e11]; exact hD
    refine lv_iload_n hx hb dX4_units_47 rfl (lv_at hl 0 rfl) ?_
    cases h
    exact rt_i hx hb hr hlocks hS hP hK hD dX4_units_48
  · replace h := fn c3 h
    refine lv_ldc hx hb hown (ht _ wd_162) dX4_units_13 ?_
    cases h
    exact rt_i hx hb hr hlocks hS hP hK hD dX4_units_15
theorem dX4_room_0 : decode cX4_room 0 = .ok (.aload_n 0, 1) := by decide +kernel
theorem dX4_room_1 : decode cX4_room 1 = .ok (.getfield 10, 3) := by decide +kernel
theorem dX4_room_4 : decode cX4_room 4 = .ok (.iload_n 1, 1) := by decide +kernel
theorem dX4_room_5 : decode cX4_room 5 = .ok (.invokevirtual 106, 3) := by decide +kernel
theorem dX4_room_8 : decode cX4_room 8 = .ok (.ifCond .eq 13, 3) := by decide +kernel
theorem dX4_room_11 : decode cX4_room 11 = .ok (.iload_n 2, 1) := by decide +kernel
theorem dX4_room_12 : decode cX4_room 12 = .ok (.iconst 0, 1) := by decide +kernel
theorem dX4_room_13 : decode cX4_room 13 = .ok (.bipush 40, 2) := by decide +kernel
theorem dX4_room_15 : decode cX4_room 15 = .ok (.invokestatic 89, 3) := by decide +kernel
theorem dX4_room_18 : decode cX4_room 18 = .ok (.ifCond .ne 6, 3) := by decide +kernel
theorem dX4_room_21 : decode cX4_room 21 = .ok (.ldc 41, 2) := by decide +kernel
theorem dX4_room_23 : decode cX4_room 23 = .ok (.ireturn, 1) := by decide +kernel
theorem dX4_room_24 : decode cX4_room 24 = .ok (.aload_n 0, 1) := by decide +kernel
theorem dX4_room_25 : decode cX4_room 25 = .ok (.getfield 19, 3) := by decide +kernel
theorem dX4_room_28 : decode cX4_room 28 = .ok (.aload_n 0, 1) := by decide +kernel
theorem dX4_room_29 : decode cX4_room 29 = .ok (.getfield 10, 3) := by decide +kernel
theorem dX4_room_32 : decode cX4_room 32 = .ok (.invokevirtual 47, 3) := by decide +kernel
theorem dX4_room_35 : decode cX4_room 35 = .ok (.aload_n 0, 1) := by decide +kernel
theorem dX4_room_36 : decode cX4_room 36 = .ok (.getfield 10, 3) := by decide +kernel
theorem dX4_room_39 : decode cX4_room 39 = .ok (.getfield 109, 3) := by decide +kernel
theorem dX4_room_42 : decode cX4_room 42 = .ok (.iload_n 1, 1) := by decide +kernel
theorem dX4_room_43 : decode cX4_room 43 = .ok (.iaload, 1) := by decide +kernel
theorem dX4_room_44 : decode cX4_room 44 = .ok (.istore_n 3, 1) := by decide +kernel
theorem dX4_room_45 : decode cX4_room 45 = .ok (.aload_n 0, 1) := by decide +kernel
theorem dX4_room_46 : decode cX4_room 46 = .ok (.getfield 10, 3) := by decide +kernel
theorem dX4_room_49 : decode cX4_room 49 = .ok (.getfield 109, 3) := by decide +kernel
theorem dX4_room_52 : decode cX4_room 52 = .ok (.iload_n 1, 1) := by decide +kernel
theorem dX4_room_53 : decode cX4_room 53 = .ok (.iload_n 2, 1) := by decide +kernel
theorem dX4_room_54 : decode cX4_room 54 = .ok (.iastore, 1) := by decide +kernel
theorem dX4_room_55 : decode cX4_room 55 = .ok (.iload_n 3, 1) := by decide +kernel
theorem dX4_room_56 : decode cX4_room 56 = .ok (.ireturn, 1) := by decide +kernel
set_option maxHeartbeats 4000000 in
set_option maxRecDepth 100000 in
theorem c_X4_room (l : Launch) (D : va_G) (cI cC cO : ClassId) (o : Nat → Nat) (a : Nat → Nat) (g : Nat → Nat) (ga : Nat → Nat → Nat) (f : Nat → Nat) (n : Nat → Nat) (t : Nat → Nat) (r : Nat → Nat) (L : Mm) (K : Mm) (P : Nat → Nat) (Hs : Nat → Mm) (S : Mm) (N : Mm) (T : Mm) (R : Mm) (x1 x2 : Int32) (res : Int32 × Mm × Mm × (Nat → Nat) × (Nat → Mm)) (sz : Nat) (h : F_X4_room L K P Hs S N T R x1 x2 = some res) : Met l yX4_room (Cond.code yX4_room cX4_room 4 (Option.some Jvm.ClassFile.FieldType.int) :: lw_g) ({ frames := 3, cells := 0, slots := 0, locals := 102 } : Room) (va_Pc [.ref (o 0), .int x1, .int x2] (pS D cI cC cO sz (wX4 o a g ga f n t r cI cC cO L K P Hs S N T R))) (QI D cI cC cO (va_A (wX4 o a g ga f n t r cI cC cO L K P Hs S N T R) sz) (wX4 o a g ga f n t r cI cC cO res.2.1 res.2.2.1 res.2.2.2.1 res.2.2.2.2 S N T R) res.1) 0 0 (va_A (wX4 o a g ga f n t r cI cC cO L K P Hs S N T R) sz) := by
  refine Met.ofW (cc := cX4_room) (maxL := 4) (ret := (Option.some Jvm.ClassFile.FieldType.int)) (by decide) rfl ?_
  intro p e s m args below meth c s₁ B hml hv
  obtain ⟨rfl, rfl, hP, hK, hD0, hN⟩ := hv
  have hx := B.exec
  have hb := B.bytes
  have hr := B.returns
  have ht : ∀ w ∈ lw_g, w.before ([.ref (o 0), .int x1, .int x2] : List Value).toArray s = true := fun w hw => atoms_spec (ws := Cond.code yX4_room cX4_room 4 (Option.some Jvm.ClassFile.FieldType.int) :: lw_g) B.pre w (List.mem_cons_of_mem _ hw)
  have hown : s.vm.findClass RX4 = some m.cls := findClass_of_methodNamed B.named
  have hlocks := B.notSynchronized
  have hD := hD0.self (sz := s.heap.size)
  generalize hAe : va_A (wX4 o a g ga f n t r cI cC cO L K P Hs S N T R) s.heap.size = A at hD ⊢
  have hA : ∀ q : Nat, s.heap.size ≤ q → A q := fun q hq => by rw [← hAe]; exact Or.inr hq
  have hS : va_S A s.heap s.heap [] := va_S.rf
  have hl := lv_entry ([.ref (o 0), .int x1, .int x2]) (n := 4) (Nat.le_of_ble_eq_true rfl)
  rw [lg_entry_eq]
  generalize (lg_sl ([.ref (o 0), .int x1, .int x2]) ++ List.replicate (4 - (lg_sl ([.ref (o 0), .int x1, .int x2])).length) Slot.unset).toArray = ls at hl ⊢
  have hl : lv_has ls 4 [(0, .ref (o 0)), (1, .int x1), (2, .int x2)] := hl
  unfold F_X4_room at h
  refine lv_aload_n hx hb dX4_room_0 rfl (lv_at hl 0 rfl) ?_
  refine va_get (D := D) (ci := 4) (v := .ref (a 0)) (C := RX4) (T := TX4) (N := 4) hx hb ht i_X4 hown hK hP 0 rfl rfl 0 (by decide) (ht _ wd_138) (fun _ h9 => h9) rfl dX4_room_1 ?_
  refine lv_iload_n hx hb dX4_room_4 rfl (lv_at hl 1 rfl) ?_
  obtain ⟨u1, e2, h⟩ := b1_ok h
  refine cp_Vi (ws' := (wX4 o a g ga f n t r cI cC cO L K P Hs S N T R)) ⟨hx, hb, hml, hown, ht⟩ (c_X1_isPlace l D cI cC cO a L x1 _ _ e2) (cwv 1 ht wd_198 wd_2 wd_265 wd_196 wd_197 (by decide +kernel) rfl rfl ⟨Nat.le_of_ble_eq_true rfl, Nat.le_of_ble_eq_true rfl⟩) 1 0 rfl rfl rfl hK hP hD hS hA hN (pm1_a _ _ _ _ _ _) (pm2_a _ _ _ _ _ _) rfl hl.1 rfl (Nat.le_of_ble_eq_true rfl) dX4_room_5 ⟨Nat.le_of_ble_eq_true rfl, Nat.le_of_ble_eq_true rfl⟩ (fun H locs hP hD hS => ?_)
  refine lv_if_eq (tgt := 21) hx hb dX4_room_8 (by decide) (fun c3 => ?_) (fun c3 => ?_)
  · replace h := fp c3 h
    refine lv_ldc hx hb hown (ht _ wd_162) dX4_room_21 ?_
    cases h
    exact rt_i hx hb hr hlocks hS hP hK hD dX4_room_23
  · replace h := fn c3 h
    refine lv_iload_n hx hb dX4_room_11 rfl (lv_at hl 2 rfl) ?_
    refine lv_iconst (v := (0 : Int32)) hx hb dX4_room_12 (by decide) ?_
    refine lv_bipush (v := (40 : Int32)) hx hb dX4_room_13 (by decide) ?_
    obtain ⟨u4, e5, h⟩ := b1_ok h
    refine cp_Si (ws' := (wX4 o a g ga f n t r cI cC cO L K P Hs S N T R)) ⟨hx, hb, hml, hown, ht⟩ (c_X4_within l D cI cC cO x2 (0 : Int32) (40 : Int32) _ _ e5) (cwst 3 ht wd_161 wd_1 wd_239 wd_160 (by decide +kernel) rfl rfl ⟨Nat.le_of_ble_eq_true rfl, Nat.le_of_ble_eq_true rfl⟩) hK hP hD hS hA hN (pm1_0 _) (pm2_0 _) rfl hl.1 rfl (Nat.le_of_ble_eq_true rfl) dX4_room_15 ⟨Nat.le_of_ble_eq_true rfl, Nat.le_of_ble_eq_true rfl⟩ (fun H locs hP hD hS => ?_)
    refine lv_if_ne (tgt := 24) hx hb dX4_room_18 (by decide) (fun c6 => ?_) (fun c6 => ?_)
    · replace h := fn c6 h
      refine lv_aload_n hx hb dX4_room_24 rfl (lv_at hl 0 rfl) ?_
      refine va_get (D := D) (ci := 4) (v := .ref (g 0)) (C := RX4) (T := TX4) (N := 4) hx hb ht i_X4 hown hK hP 0 rfl rfl 1 (by decide) (ht _ wd_139) (fun _ h9 => h9) rfl dX4_room_25 ?_
      refine lv_aload_n hx hb dX4_room_28 rfl (lv_at hl 0 rfl) ?_
      refine va_get (D := D) (ci := 4) (v := .ref (a 0)) (C := RX4) (T := TX4) (N := 4) hx hb ht i_X4 hown hK hP 0 rfl rfl 0 (by decide) (ht _ wd_138) (fun _ h9 => h9) rfl dX4_room_29 ?_
      obtain ⟨K7, P8, Hs9, e10, h⟩ := b3_ok h
      refine cp_Vv (ws' := (wX4 o a g ga f n t r cI cC cO L K7 P8 Hs9 S N T R)) ⟨hx, hb, hml, hown, ht⟩ (c_X0_keep l D cI cC cO g ga a K P Hs L _ _ e10) (cwv 1 ht wd_171 wd_3 wd_168 wd_169 wd_170 (by decide +kernel) rfl rfl ⟨Nat.le_of_ble_eq_true rfl, Nat.le_of_ble_eq_true rfl⟩) 0 0 rfl rfl rfl hK hP hD hS hA hN (pm1_ga _ _ _ _ _ _) (pm2_ga _ _ _ _ _ _) rfl hl.1 rfl (Nat.le_of_ble_eq_true rfl) dX4_room_32 ⟨Nat.le_of_ble_eq_true rfl, Nat.le_of_ble_eq_true rfl⟩ (fun H locs hP hD hS => ?_)
      refine lv_aload_n hx hb dX4_room_35 rfl (lv_at hl 0 rfl) ?_
      refine va_get (D := D) (ci := 4) (v := .ref (a 0)) (C := RX4) (T := TX4) (N := 4) hx hb ht i_X4 hown hK hP 0 rfl rfl 0 (by decide) (ht _ wd_138) (fun _ h9 => h9) rfl dX4_room_36 ?_
      refine va_getN (D := D) (ci := 1) (v := .ref (a 2)) (C := RX1) (T := TX1) (N := 5) hx hb ht i_X1 hown hK hP 1 rfl rfl 1 (by decide) (va_Nw.use rfl (hN.1 _ _ _ _ _ _ wd_30)) (fun _ h9 => h9) rfl dX4_room_39 ?_
      refine lv_iload_n hx hb dX4_room_42 rfl (lv_at hl 1 rfl) ?_
      obtain ⟨i11, h⟩ := ck_ok h
      refine va_iald hx hb hK hP 3 0 rfl rfl i11 dX4_room_43 ?_
      refine lv_istore_n (lv' := [(3, .int (L 1 x1.toNatClampNeg)), (0, .ref (o 0)), (1, .int x1), (2, .int x2)]) hx hb dX4_room_44 rfl hl (by decide) rfl (fun ls hl => ?_)
      refine lv_aload_n hx hb dX4_room_45 rfl (lv_at hl 1 rfl) ?_
      refine va_get (D := D) (ci := 4) (v := .ref (a 0)) (C := RX4) (T := TX4) (N := 4) hx hb ht i_X4 hown hK hP 0 rfl rfl 0 (by decide) (ht _ wd_138) (fun _ h9 => h9) rfl dX4_room_46 ?_
      refine va_getN (D := D) (ci := 1) (v := .ref (a 2)) (C := RX1) (T := TX1) (N := 5) hx hb ht i_X1 hown hK hP 1 rfl rfl 1 (by decide) (va_Nw.use rfl (hN.1 _ _ _ _ _ _ wd_30)) (fun _ h9 => h9) rfl dX4_room_49 ?_
      refine lv_iload_n hx hb dX4_room_52 rfl (lv_at hl 2 rfl) ?_
      refine lv_iload_n hx hb dX4_room_53 rfl (lv_at hl 3 rfl) ?_
      obtain ⟨i12, h⟩ := ck_ok h
      refine va_iast hx hb hK hP hD hS 3 0 rfl rfl i12 dX4_room_54 (fun H locs hP hD hS => ?_)
      obtain ⟨L13, e14, h⟩ := sv_ok h
      have hP : va_P D classes (wX4 o a g ga f n t r cI cC cO L13 K7 P8 Hs9 S N T R) H := by rw [← e14]; exact hP
      have hD : va_D A (wX4 o a g ga f n t r cI cC cO L13 K7 P8 Hs9 S N T R) := by rw [← e14]; exact hD
      refine lv_iload_n hx hb dX4_room_55 rfl (lv_at hl 0 rfl) ?_
      cases h
      exact rt_i hx hb hr hlocks hS hP hK hD dX4_room_56
    · replace h := fp c6 h
      refine lv_ldc hx hb hown (ht _ wd_162) dX4_room_21 ?_
      cases h
      exact rt_i hx hb hr hlocks hS hP hK hD dX4_room_23
theorem dX4_pipeOf_0 : decode cX4_pipeOf 0 = .ok (.aload_n 0, 1) := by decide +kernel
theorem dX4_pipeOf_1 : decode cX4_pipeOf 1 = .ok (.getfield 10, 3) := by decide +kernel
theorem dX4_pipeOf_4 : decode cX4_pipeOf 4 = .ok (.iload_n 1, 1) := by decide +kernel
theorem dX4_pipeOf_5 : decode cX4_pipeOf 5 = .ok (.invokevirtual 64, 3) := by decide +kernel
theorem dX4_pipeOf_8 : decode cX4_pipeOf 8 = .ok (.ifCond .eq 12, 3) := by decide +kernel
theorem dX4_pipeOf_11 : decode cX4_pipeOf 11 = .ok (.iload_n 2, 1) := by decide +kernel
theorem dX4_pipeOf_12 : decode cX4_pipeOf 12 = .ok (.iconst 0, 1) := by decide +kernel
theorem dX4_pipeOf_13 : decode cX4_pipeOf 13 = .ok (.iconst 5, 1) := by decide +kernel
theorem dX4_pipeOf_14 : decode cX4_pipeOf 14 = .ok (.invokestatic 89, 3) := by decide +kernel
theorem dX4_pipeOf_17 : decode cX4_pipeOf 17 = .ok (.ifCond .ne 6, 3) := by decide +kernel
theorem dX4_pipeOf_20 : decode cX4_pipeOf 20 = .ok (.ldc 41, 2) := by decide +kernel
theorem dX4_pipeOf_22 : decode cX4_pipeOf 22 = .ok (.ireturn, 1) := by decide +kernel
theorem dX4_pipeOf_23 : decode cX4_pipeOf 23 = .ok (.aload_n 0, 1) := by decide +kernel
theorem dX4_pipeOf_24 : decode cX4_pipeOf 24 = .ok (.getfield 10, 3) := by decide +kernel
theorem dX4_pipeOf_27 : decode cX4_pipeOf 27 = .ok (.iload_n 1, 1) := by decide +kernel
theorem dX4_pipeOf_28 : decode cX4_pipeOf 28 = .ok (.iload_n 2, 1) := by decide +kernel
theorem dX4_pipeOf_29 : decode cX4_pipeOf 29 = .ok (.invokevirtual 93, 3) := by decide +kernel
theorem dX4_pipeOf_32 : decode cX4_pipeOf 32 = .ok (.ireturn, 1) := by decide +kernel
set_option maxHeartbeats 4000000 in
set_option maxRecDepth 100000 in
theorem c_X4_pipeOf (l : Launch) (D : va_G) (cI cC cO : ClassId) (o : Nat → Nat) (a : Nat → Nat) (g : Nat → Nat) (ga : Nat → Nat → Nat) (f : Nat → Nat) (n : Nat → Nat) (t : Nat → Nat) (r : Nat → Nat) (L : Mm) (K : Mm) (P : Nat → Nat) (Hs : Nat → Mm) (S : Mm) (N : Mm) (T : Mm) (R : Mm) (x1 x2 : Int32) (res : Int32) (sz : Nat) (h : F_X4_pipeOf L K P Hs S N T R x1 x2 = some res) : Met l yX4_pipeOf (Cond.code yX4_pipeOf cX4_pipeOf 3 (Option.some Jvm.ClassFile.FieldType.int) :: lw_g) ({ frames := 2, cells := 0, slots := 0, locals := 43 } : Room) (va_Pc [.ref (o 0), .int x1, .int x2] (pS D cI cC cO sz (wX4 o a g ga f n t r cI cC cO L K P Hs S N T R))) (QI D cI cC cO (va_A (wX4 o a g ga f n t r cI cC cO L K P Hs S N T R) sz) (wX4 o a g ga f n t r cI cC cO L K P Hs S N T R) res) 0 0 (va_A (wX4 o a g ga f n t r cI cC cO L K P Hs S N T R) sz) := by
  refine Met.ofW (cc := cX4_pipeOf) (maxL := 3) (ret := (Option.some Jvm.ClassFile.FieldType.int)) (by decide) rfl ?_
  intro p e s m args below meth c s₁ B hml hv
  obtain ⟨rfl, rfl, hP, hK, hD0, hN⟩ := hv
  have hx := B.exec
  have hb := B.bytes
  have hr := B.returns
  have ht : ∀ w ∈ lw_g, w.before ([.ref (o 0), .int x1, .int x2] : List Value).toArray s = true := fun w hw => atoms_spec (ws := Cond.code yX4_pipeOf cX4_pipeOf 3 (Option.some Jvm.ClassFile.FieldType.int) :: lw_g) B.pre w (List.mem_cons_of_mem _ hw)
  have hown : s.vm.findClass RX4 = some m.cls := findClass_of_methodNamed B.named
  have hlocks := B.notSynchronized
  have hD := hD0.self (sz := s.heap.size)
  generalize hAe : va_A (wX4 o a g ga f n t r cI cC cO L K P Hs S N T R) s.heap.size = A at hD ⊢
  have hA : ∀ q : Nat, s.heap.size ≤ q → A q := fun q hq => by rw [← hAe]; exact Or.inr hq
  have hS : va_S A s.heap s.heap [] := va_S.rf
  have hl := lv_entry ([.ref (o 0), .int x1, .int x2]) (n := 3) (Nat.le_of_ble_eq_true rfl)
  rw [lg_entry_eq]
  generalize (lg_sl ([.ref (o 0), .int x1, .int x2]) ++ List.replicate (3 - (lg_sl ([.ref (o 0), .int x1, .int x2])).length) Slot.unset).toArray = ls at hl ⊢
  have hl : lv_has ls 3 [(0, .ref (o 0)), (1, .int x1), (2, .int x2)] := hl
  unfold F_X4_pipeOf at h
  refine lv_aload_n hx hb dX4_pipeOf_0 rfl (lv_at hl 0 rfl) ?_
  refine va_get (D := D) (ci := 4) (v := .ref (a 0)) (C := RX4) (T := TX4) (N := 4) hx hb ht i_X4 hown hK hP 0 rfl rfl 0 (by decide) (ht _ wd_138) (fun _ h9 => h9) rfl dX4_pipeOf_1 ?_
  refine lv_iload_n hx hb dX4_pipeOf_4 rfl (lv_at hl 1 rfl) ?_
  obtain ⟨u1, e2, h⟩ := b1_ok h
  refine cp_Vi (ws' := (wX4 o a g ga f n t r cI cC cO L K P Hs S N T R)) ⟨hx, hb, hml, hown, ht⟩ (c_X1_isPipe l D cI cC cO a L x1 _ _ e2) (cwv 1 ht wd_222 wd_2 wd_219 wd_220 wd_221 (by decide +kernel) rfl rfl ⟨Nat.le_of_ble_eq_true rfl, Nat.le_of_ble_eq_true rfl⟩) 1 0 rfl rfl rfl hK hP hD hS hA hN (pm1_a _ _ _ _ _ _) (pm2_a _ _ _ _ _ _) rfl hl.1 rfl (Nat.le_of_ble_eq_true rfl) dX4_pipeOf_5 ⟨Nat.le_of_ble_eq_true rfl, Nat.le_of_ble_eq_true rfl⟩ (fun H locs hP hD hS => ?_)
  refine lv_if_eq (tgt := 20) hx hb dX4_pipeOf_8 (by decide) (fun c3 => ?_) (fun c3 => ?_)
  · replace h := fp c3 h
    refine lv_ldc hx hb hown (ht _ wd_162) dX4_pipeOf_20 ?_
    cases h
    exact rt_i hx hb hr hlocks hS hP hK hD dX4_pipeOf_22
  · replace h := fn c3 h
    refine lv_iload_n hx hb dX4_pipeOf_11 rfl (lv_at hl 2 rfl) ?_
    refine lv_iconst (v := (0 : Int32)) hx hb dX4_pipeOf_12 (by decide) ?_
    refine lv_iconst (v := (5 : Int32)) hx hb dX4_pipeOf_13 (by decide) ?_
    obtain ⟨u4, e5, h⟩ := b1_ok h
    refine cp_Si (ws' := (wX4 o a g ga f n t r cI cC cO L K P Hs S N T R)) ⟨hx, hb, hml, hown, ht⟩ (c_X4_within l D cI cC cO x2 (0 : Int32) (5 : Int32) _ _ e5) (cwst 3 ht wd_161 wd_1 wd_239 wd_160 (by decide +kernel) rfl rfl ⟨Nat.le_of_ble_eq_true rfl, Nat.le_of_ble_eq_true rfl⟩) hK hP hD hS hA hN (pm1_0 _) (pm2_0 _) rfl hl.1 rfl (Nat.le_of_ble_eq_true rfl) dX4_pipeOf_14 ⟨Nat.le_of_ble_eq_true rfl, Nat.le_of_ble_eq_true rfl⟩ (fun H locs hP hD hS => ?_)
    refine lv_if_ne (tgt := 23) hx hb dX4_pipeOf_17 (by decide) (fun c6 => ?_) (fun c6 => ?_)
    · replace h := fn c6 h
      refine lv_aload_n hx hb dX4_pipeOf_23 rfl (lv_at hl 0 rfl) ?_
      refine va_get (D := D) (ci := 4) (v := .ref (a 0)) (C := RX4) (T := TX4) (N := 4) hx hb ht i_X4 hown hK hP 0 rfl rfl 0 (by decide) (ht _ wd_138) (fun _ h9 => h9) rfl dX4_pipeOf_24 ?_
      refine lv_iload_n hx hb dX4_pipeOf_27 rfl (lv_at hl 1 rfl) ?_
      refine lv_iload_n hx hb dX4_pipeOf_28 rfl (lv_at hl 2 rfl) ?_
      obtain ⟨u7, e8, h⟩ := b1_ok h
      refine cp_Vi (ws' := (wX4 o a g ga f n t r cI cC cO L K P Hs S N T R)) ⟨hx, hb, hml, hown, ht⟩ (c_X1_partOf l D cI cC cO a L x1 x2 _ _ e8) (cwv 2 ht wd_251 wd_2 wd_248 wd_249 wd_250 (by decide +kernel) rfl rfl ⟨Nat.le_of_ble_eq_true rfl, Nat.le_of_ble_eq_true rfl⟩) 1 0 rfl rfl rfl hK hP hD hS hA hN (pm1_a _ _ _ _ _ _) (pm2_a _ _ _ _ _ _) rfl hl.1 rfl (Nat.le_of_ble_eq_true rfl) dX4_pipeOf_29 ⟨Nat.le_of_ble_eq_true rfl, Nat.le_of_ble_eq_true rfl⟩ (fun H locs hP hD hS => ?_)
      cases h
      exact rt_i hx hb hr hlocks hS hP hK hD dX4_pipeOf_32
    · replace h := fp c6 h
      refine lv_ldc hx hb hown (ht _ wd_162) dX4_pipeOf_20 ?_
      cases h
      exact rt_i hx hb hr hlocks hS hP hK hD dX4_pipeOf_22
