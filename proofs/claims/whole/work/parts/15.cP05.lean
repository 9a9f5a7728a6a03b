theorem dX4_type_0 : decode cX4_type 0 = .ok (.iload_n 1, 1) := by decide +kernel
theorem dX4_type_1 : decode cX4_type 1 = .ok (.bipush 32, 2) := by decide +kernel
theorem dX4_type_3 : decode cX4_type 3 = .ok (.bipush 126, 2) := by decide +kernel
theorem dX4_type_5 : decode cX4_type 5 = .ok (.invokestatic 89, 3) := by decide +kernel
theorem dX4_type_8 : decode cX4_type 8 = .ok (.ifCond .ne 6, 3) := by decide +kernel
theorem dX4_type_11 : decode cX4_type 11 = .ok (.ldc 41, 2) := by decide +kernel
theorem dX4_type_13 : decode cX4_type 13 = .ok (.ireturn, 1) := by decide +kernel
theorem dX4_type_14 : decode cX4_type 14 = .ok (.aload_n 0, 1) := by decide +kernel
theorem dX4_type_15 : decode cX4_type 15 = .ok (.getfield 33, 3) := by decide +kernel
theorem dX4_type_18 : decode cX4_type 18 = .ok (.iload_n 1, 1) := by decide +kernel
theorem dX4_type_19 : decode cX4_type 19 = .ok (.i2c, 1) := by decide +kernel
theorem dX4_type_20 : decode cX4_type 20 = .ok (.invokevirtual 176, 3) := by decide +kernel
theorem dX4_type_23 : decode cX4_type 23 = .ok (.ireturn, 1) := by decide +kernel
set_option maxHeartbeats 4000000 in
set_option maxRecDepth 100000 in
theorem c_X4_type (l : Launch) (D : va_G) (cI cC cO : ClassId) (o : Nat → Nat) (a : Nat → Nat) (g : Nat → Nat) (ga : Nat → Nat → Nat) (f : Nat → Nat) (n : Nat → Nat) (t : Nat → Nat) (r : Nat → Nat) (L : Mm) (K : Mm) (P : Nat → Nat) (Hs : Nat → Mm) (S : Mm) (N : Mm) (T : Mm) (R : Mm) (x1 : Int32) (res : Int32 × Mm) (sz : Nat) (h : F_X4_type L K P Hs S N T R x1 = some res) : Met l yX4_type (Cond.code yX4_type cX4_type 2 (Option.some Jvm.ClassFile.FieldType.int) :: lw_g) ({ frames := 1, cells := 0, slots := 0, locals := 22 } : Room) (va_Pc [.ref (o 0), .int x1] (pS D cI cC cO sz (wX4 o a g ga f n t r cI cC cO L K P Hs S N T R))) (QI D cI cC cO (va_A (wX4 o a g ga f n t r cI cC cO L K P Hs S N T R) sz) (wX4 o a g ga f n t r cI cC cO L K P Hs S N res.2 R) res.1) 0 0 (va_A (wX4 o a g ga f n t r cI cC cO L K P Hs S N T R) sz) := by
  refine Met.ofW (cc := cX4_type) (maxL := 2) (ret := (Option.some Jvm.ClassFile.FieldType.int)) (by decide) rfl ?_
  intro p e s m args below meth c s₁ B hml hv
  obtain ⟨rfl, rfl, hP, hK, hD0, hN⟩ := hv
  have hx := B.exec
  have hb := B.bytes
  have hr := B.returns
  have ht : ∀ w ∈ lw_g, w.before ([.ref (o 0), .int x1] : List Value).toArray s = true := fun w hw => atoms_spec (ws := Cond.code yX4_type cX4_type 2 (Option.some Jvm.ClassFile.FieldType.int) :: lw_g) B.pre w (List.mem_cons_of_mem _ hw)
  have hown : s.vm.findClass RX4 = some m.cls := findClass_of_methodNamed B.named
  have hlocks := B.notSynchronized
  have hD := hD0.self (sz := s.heap.size)
  generalize hAe : va_A (wX4 o a g ga f n t r cI cC cO L K P Hs S N T R) s.heap.size = A at hD ⊢
  have hA : ∀ q : Nat, s.heap.size ≤ q → A q := fun q hq => by rw [← hAe]; exact Or.inr hq
  have hS : va_S A s.heap s.heap [] := va_S.rf
  have hl := lv_entry ([.ref (o 0), .int x1]) (n := 2) (Nat.le_of_ble_eq_true rfl)
  rw [lg_entry_eq]
  generalize (lg_sl ([.ref (o 0), .int x1]) ++ List.replicate (2 - (lg_sl ([.ref (o 0), .int x1])).length) Slot.unset).toArray = ls at hl ⊢
  have hl : lv_has ls 2 [(0, .ref (o 0)), (1, .int x1)] := hl
  unfold F_X4_type at h
  refine lv_iload_n hx hb dX4_type_0 rfl (lv_at hl 1 rfl) ?_
  refine lv_bipush (v := (32 : Int32)) hx hb dX4_type_1 (by decide) ?_
  refine lv_bipush (v := (126 : Int32)) hx hb dX4_type_3 (by decide) ?_
  obtain ⟨u1, e2, h⟩ := b1_ok h
  refine cp_Si (ws' := (wX4 o a g ga f n t r cI cC cO L K P Hs S N T R)) ⟨hx, hb, hml, hown, ht⟩ (c_X4_within l D cI cC cO x1 (32 : Int32) (126 : Int32) _ _ e2) (cwst 3 ht wd_161 wd_1 wd_239 wd_160 (by decide +kernel) rfl rfl ⟨Nat.le_of_ble_eq_true rfl, Nat.le_of_ble_eq_true rfl⟩) hK hP hD hS hA hN (pm1_0 _) (pm2_0 _) rfl hl.1 rfl (Nat.le_of_ble_eq_true rfl) dX4_type_5 ⟨Nat.le_of_ble_eq_true rfl, Nat.le_of_ble_eq_true rfl⟩ (fun H locs hP hD hS => ?_)
  refine lv_if_ne (tgt := 14) hx hb dX4_type_8 (by decide) (fun c3 => ?_) (fun c3 => ?_)
  · replace h := fn c3 h
    refine lv_aload_n hx hb dX4_type_14 rfl (lv_at hl 0 rfl) ?_
    refine va_get (D := D) (ci := 4) (v := .ref (t 0)) (C := RX4) (T := TX4) (N := 4) hx hb ht i_X4 hown hK hP 0 rfl rfl 3 (by decide) (ht _ wd_141) (fun _ h9 => h9) rfl dX4_type_15 ?_
    refine lv_iload_n hx hb dX4_type_18 rfl (lv_at hl 1 rfl) ?_
    refine lv_i2c (v := ((x1.toUInt32 % 65536).toInt32)) hx hb dX4_type_19 rfl ?_
    obtain ⟨u4, T5, e6, h⟩ := b2_ok h
    refine cp_Vi (ws' := (wX4 o a g ga f n t r cI cC cO L K P Hs S N T5 R)) ⟨hx, hb, hml, hown, ht⟩ (c_X2_append l D cI cC cO t r T R ((x1.toUInt32 % 65536).toInt32) _ _ e6) (cwv 1 ht wd_453 wd_5 wd_450 wd_451 wd_452 (by decide +kernel) rfl rfl ⟨Nat.le_of_ble_eq_true rfl, Nat.le_of_ble_eq_true rfl⟩) 2 0 rfl rfl rfl hK hP hD hS hA hN (pm1_tr _ _ _ _ _ _) (pm2_tr _ _ _ _ _ _) rfl hl.1 rfl (Nat.le_of_ble_eq_true rfl) dX4_type_20 ⟨Nat.le_of_ble_eq_true rfl, Nat.le_of_ble_eq_true rfl⟩ (fun H locs hP hD hS => ?_)
    cases h
    exact rt_i hx hb hr hlocks hS hP hK hD dX4_type_23
  · replace h := fp c3 h
    refine lv_ldc hx hb hown (ht _ wd_162) dX4_type_11 ?_
    cases h
    exact rt_i hx hb hr hlocks hS hP hK hD dX4_type_13
theorem dX4_clearText_0 : decode cX4_clearText 0 = .ok (.aload_n 0, 1) := by decide +kernel
theorem dX4_clearText_1 : decode cX4_clearText 1 = .ok (.getfield 33, 3) := by decide +kernel
theorem dX4_clearText_4 : decode cX4_clearText 4 = .ok (.invokevirtual 180, 3) := by decide +kernel
theorem dX4_clearText_7 : decode cX4_clearText 7 = .ok (.ireturn, 1) := by decide +kernel
set_option maxHeartbeats 4000000 in
set_option maxRecDepth 100000 in
theorem c_X4_clearText (l : Launch) (D : va_G) (cI cC cO : ClassId) (o : Nat → Nat) (a : Nat → Nat) (g : Nat → Nat) (ga : Nat → Nat → Nat) (f : Nat → Nat) (n : Nat → Nat) (t : Nat → Nat) (r : Nat → Nat) (L : Mm) (K : Mm) (P : Nat → Nat) (Hs : Nat → Mm) (S : Mm) (N : Mm) (T : Mm) (R : Mm) (res : Int32 × Mm) (sz : Nat) (h : F_X4_clearText L K P Hs S N T R = some res) : Met l yX4_clearText (Cond.code yX4_clearText cX4_clearText 1 (Option.some Jvm.ClassFile.FieldType.int) :: lw_g) ({ frames := 1, cells := 0, slots := 0, locals := 21 } : Room) (va_Pc [.ref (o 0)] (pS D cI cC cO sz (wX4 o a g ga f n t r cI cC cO L K P Hs S N T R))) (QI D cI cC cO (va_A (wX4 o a g ga f n t r cI cC cO L K P Hs S N T R) sz) (wX4 o a g ga f n t r cI cC cO L K P Hs S N res.2 R) res.1) 0 0 (va_A (wX4 o a g ga f n t r cI cC cO L K P Hs S N T R) sz) := by
  refine Met.ofW (cc := cX4_clearText) (maxL := 1) (ret := (Option.some Jvm.ClassFile.FieldType.int)) (by decide) rfl ?_
  intro p e s m args below meth c s₁ B hml hv
  obtain ⟨rfl, rfl, hP, hK, hD0, hN⟩ := hv
  have hx := B.exec
  have hb := B.bytes
  have hr := B.returns
  have ht : ∀ w ∈ lw_g, w.before ([.ref (o 0)] : List Value).toArray s = true := fun w hw => atoms_spec (ws := Cond.code yX4_clearText cX4_clearText 1 (Option.some Jvm.ClassFile.FieldType.int) :: lw_g) B.pre w (List.mem_cons_of_mem _ hw)
  have hown : s.vm.findClass RX4 = some m.cls := findClass_of_methodNamed B.named
  have hlocks := B.notSynchronized
  have hD := hD0.self (sz := s.heap.size)
  generalize hAe : va_A (wX4 o a g ga f n t r cI cC cO L K P Hs S N T R) s.heap.size = A at hD ⊢
  have hA : ∀ q : Nat, s.heap.size ≤ q → A q := fun q hq => by rw [← hAe]; exact Or.inr hq
  have hS : va_S A s.heap s.heap [] := va_S.rf
  have hl := lv_entry ([.ref (o 0)]) (n := 1) (Nat.le_of_ble_eq_true rfl)
  rw [lg_entry_eq]
  generalize (lg_sl ([.ref (o 0)]) ++ List.replicate (1 - (lg_sl ([.ref (o 0)])).length) Slot.unset).toArray = ls at hl ⊢
  have hl : lv_has ls 1 [(0, .ref (o 0))] := hl
  unfold F_X4_clearText at h
  refine lv_aload_n hx hb dX4_clearText_0 rfl (lv_at hl 0 rfl) ?_
  refine va_get (D := D) (ci := 4) (v := .ref (t 0)) (C := RX4) (T := TX4) (N := 4) hx hb ht i_X4 hown hK hP 0 rfl rfl 3 (by decide) (ht _ wd_141) (fun _ h9 => h9) rfl dX4_clearText_1 ?_
  obtain ⟨u1, T2, e3, h⟩ := b2_ok h
  refine cp_Vi (ws' := (wX4 o a g ga f n t r cI cC cO L K P Hs S N T2 R)) ⟨hx, hb, hml, hown, ht⟩ (c_X2_empty l D cI cC cO t r T R _ _ e3) (cwv 0 ht wd_462 wd_5 wd_459 wd_460 wd_461 (by decide +kernel) rfl rfl ⟨Nat.le_of_ble_eq_true rfl, Nat.le_of_ble_eq_true rfl⟩) 2 0 rfl rfl rfl hK hP hD hS hA hN (pm1_tr _ _ _ _ _ _) (pm2_tr _ _ _ _ _ _) rfl hl.1 rfl (Nat.le_of_ble_eq_true rfl) dX4_clearText_4 ⟨Nat.le_of_ble_eq_true rfl, Nat.le_of_ble_eq_true rfl⟩ (fun H locs hP hD hS => ?_)
  cases h
  exact rt_i hx hb hr hlocks hS hP hK hD dX4_clearText_7
theorem dX4_fault_0 : decode cX4_fault 0 = .ok (.iload_n 1, 1) := by decide +kernel
theorem dX4_fault_1 : decode cX4_fault 1 = .ok (.iconst 0, 1) := by decide +kernel
theorem dX4_fault_2 : decode cX4_fault 2 = .ok (.iconst 2, 1) := by decide +kernel
theorem dX4_fault_3 : decode cX4_fault 3 = .ok (.invokestatic 89, 3) := by decide +kernel
theorem dX4_fault_6 : decode cX4_fault 6 = .ok (.ifCond .ne 6, 3) := by decide +kernel
theorem dX4_fault_9 : decode cX4_fault 9 = .ok (.ldc 41, 2) := by decide +kernel
theorem dX4_fault_11 : decode cX4_fault 11 = .ok (.ireturn, 1) := by decide +kernel
theorem dX4_fault_12 : decode cX4_fault 12 = .ok (.aload_n 0, 1) := by decide +kernel
theorem dX4_fault_13 : decode cX4_fault 13 = .ok (.getfield 33, 3) := by decide +kernel
theorem dX4_fault_16 : decode cX4_fault 16 = .ok (.aload_n 0, 1) := by decide +kernel
theorem dX4_fault_17 : decode cX4_fault 17 = .ok (.getfield 10, 3) := by decide +kernel
theorem dX4_fault_20 : decode cX4_fault 20 = .ok (.invokevirtual 183, 3) := by decide +kernel
theorem dX4_fault_23 : decode cX4_fault 23 = .ok (.aload_n 0, 1) := by decide +kernel
theorem dX4_fault_24 : decode cX4_fault 24 = .ok (.getfield 33, 3) := by decide +kernel
theorem dX4_fault_27 : decode cX4_fault 27 = .ok (.getfield 186, 3) := by decide +kernel
theorem dX4_fault_30 : decode cX4_fault 30 = .ok (.lookupswitch 48 #[(0, 26), (3, 29)], 26) := by decide +kernel
theorem dX4_fault_56 : decode cX4_fault 56 = .ok (.ldc 144, 2) := by decide +kernel
theorem dX4_fault_58 : decode cX4_fault 58 = .ok (.ireturn, 1) := by decide +kernel
theorem dX4_fault_59 : decode cX4_fault 59 = .ok (.iload_n 1, 1) := by decide +kernel
theorem dX4_fault_60 : decode cX4_fault 60 = .ok (.iconst 2, 1) := by decide +kernel
theorem dX4_fault_61 : decode cX4_fault 61 = .ok (.if_icmp .ne 8, 3) := by decide +kernel
theorem dX4_fault_64 : decode cX4_fault 64 = .ok (.ldc 144, 2) := by decide +kernel
theorem dX4_fault_66 : decode cX4_fault 66 = .ok (.goto 11, 3) := by decide +kernel
theorem dX4_fault_69 : decode cX4_fault 69 = .ok (.aload_n 0, 1) := by decide +kernel
theorem dX4_fault_70 : decode cX4_fault 70 = .ok (.getfield 33, 3) := by decide +kernel
theorem dX4_fault_73 : decode cX4_fault 73 = .ok (.iload_n 1, 1) := by decide +kernel
theorem dX4_fault_74 : decode cX4_fault 74 = .ok (.invokevirtual 189, 3) := by decide +kernel
theorem dX4_fault_77 : decode cX4_fault 77 = .ok (.ireturn, 1) := by decide +kernel
theorem dX4_fault_78 : decode cX4_fault 78 = .ok (.aload_n 0, 1) := by decide +kernel
theorem dX4_fault_79 : decode cX4_fault 79 = .ok (.getfield 33, 3) := by decide +kernel
theorem dX4_fault_82 : decode cX4_fault 82 = .ok (.iload_n 1, 1) := by decide +kernel
theorem dX4_fault_83 : decode cX4_fault 83 = .ok (.invokevirtual 189, 3) := by decide +kernel
theorem dX4_fault_86 : decode cX4_fault 86 = .ok (.ireturn, 1) := by decide +kernel
set_option maxHeartbeats 4000000 in
set_option maxRecDepth 100000 in
theorem c_X4_fault (l : Launch) (D : va_G) (cI cC cO : ClassId) (o : Nat → Nat) (a : Nat → Nat) (g : Nat → Nat) (ga : Nat → Nat → Nat) (f : Nat → Nat) (n : Nat → Nat) (t : Nat → Nat) (r : Nat → Nat) (L : Mm) (K : Mm) (P : Nat → Nat) (Hs : Nat → Mm) (S : Mm) (N : Mm) (T : Mm) (R : Mm) (x1 : Int32) (res : Int32 × Mm × Mm) (sz : Nat) (h : F_X4_fault L K P Hs S N T R x1 = some res) : Met l yX4_fault (Cond.code yX4_fault cX4_fault 2 (Option.some Jvm.ClassFile.FieldType.int) :: lw_g) ({ frames := 6, cells := 0, slots := 0, locals := 136 } : Room) (va_Pc [.ref (o 0), .int x1] (pS D cI cC cO sz (wX4 o a g ga f n t r cI cC cO L K P Hs S N T R))) (QI D cI cC cO (va_A (wX4 o a g ga f n t r cI cC cO L K P Hs S N T R) sz) (wX4 o a g ga f n t r cI cC cO L K P Hs S N res.2.1 res.2.2) res.1) 0 0 (va_A (wX4 o a g ga f n t r cI cC cO L K P Hs S N T R) sz) := by
  refine Met.ofW (cc := cX4_fault) (maxL := 2) (ret := (Option.some Jvm.ClassFile.FieldType.int)) (by decide) rfl ?_
  intro p e s m args below meth c s₁ B hml hv
  obtain ⟨rfl, rfl, hP, hK, hD0, hN⟩ := hv
  have hx := B.exec
  have hb := B.bytes
  have hr := B.returns
  have ht : ∀ w ∈ lw_g, w.before ([.ref (o 0), .int x1] : List Value).toArray s = true := fun w hw => atoms_spec (ws := Cond.code yX4_fault cX4_fault 2 (Option.some Jvm.ClassFile.FieldType.int) :: lw_g) B.pre w (List.mem_cons_of_mem _ hw)
  have hown : s.vm.findClass RX4 = some m.cls := findClass_of_methodNamed B.named
  have hlocks := B.notSynchronized
  have hD := hD0.self (sz := s.heap.size)
  generalize hAe : va_A (wX4 o a g ga f n t r cI cC cO L K P Hs S N T R) s.heap.size = A at hD ⊢
  have hA : ∀ q : Nat, s.heap.size ≤ q → A q := fun q hq => by rw [← hAe]; exact Or.inr hq
  have hS : va_S A s.heap s.heap [] := va_S.rf
  have hl := lv_entry ([.ref (o 0), .int x1]) (n := 2) (Nat.le_of_ble_eq_true rfl)
  rw [lg_entry_eq]
  generalize (lg_sl ([.ref (o 0), .int x1]) ++ List.replicate (2 - (lg_sl ([.ref (o 0), .int x1])).length) Slot.unset).toArray = ls at hl ⊢
  have hl : lv_has ls 2 [(0, .ref (o 0)), (1, .int x1)] := hl
  unfold F_X4_fault at h
  refine lv_iload_n hx hb dX4_fault_0 rfl (lv_at hl 1 rfl) ?_
  refine lv_iconst (v := (0 : Int32)) hx hb dX4_fault_1 (by decide) ?_
  refine lv_iconst (v := (2 : Int32)) hx hb dX4_fault_2 (by decide) ?_
  obtain ⟨u1, e2, h⟩ := b1_ok h
  refine cp_Si (ws' := (wX4 o a g ga f n t r cI cC cO L K P Hs S N T R)) ⟨hx, hb, hml, hown, ht⟩ (c_X4_within l D cI cC cO x1 (0 : Int32) (2 : Int32) _ _ e2) (cwst 3 ht wd_161 wd_1 wd_239 wd_160 (by decide +kernel) rfl rfl ⟨Nat.le_of_ble_eq_true rfl, Nat.le_of_ble_eq_true rfl⟩) hK hP hD hS hA hN (pm1_0 _) (pm2_0 _) rfl hl.1 rfl (Nat.le_of_ble_eq_true rfl) dX4_fault_3 ⟨Nat.le_of_ble_eq_true rfl, Nat.le_of_ble_eq_true rfl⟩ (fun H locs hP hD hS => ?_)
  refine lv_if_ne (tgt := 12) hx hb dX4_fault_6 (by decide) (fun c3 => ?_) (fun c3 => ?_)
  · replace h := fn c3 h
    refine lv_aload_n hx hb dX4_fault_12 rfl (lv_at hl 0 rfl) ?_
    refine va_get (D := D) (ci := 4) (v := .ref (t 0)) (C := RX4) (T := TX4) (N := 4) hx hb ht i_X4 hown hK hP 0 rfl rfl 3 (by decide) (ht _ wd_141) (fun _ h9 => h9) rfl dX4_fault_13 ?_
    refine lv_aload_n hx hb dX4_fault_16 rfl (lv_at hl 0 rfl) ?_
    refine va_get (D := D) (ci := 4) (v := .ref (a 0)) (C := RX4) (T := TX4) (N := 4) hx hb ht i_X4 hown hK hP 0 rfl rfl 0 (by decide) (ht _ wd_138) (fun _ h9 => h9) rfl dX4_fault_17 ?_
    obtain ⟨T4, R5, e6, h⟩ := b2_ok h
    refine cp_Vv (ws' := (wX4 o a g ga f n t r cI cC cO L K P Hs S N T4 R5)) ⟨hx, hb, hml, hown, ht⟩ (c_X2_read l D cI cC cO t r a T R L _ _ e6) (cwv 1 ht wd_470 wd_5 wd_467 wd_468 wd_469 (by decide +kernel) rfl rfl ⟨Nat.le_of_ble_eq_true rfl, Nat.le_of_ble_eq_true rfl⟩) 2 0 rfl rfl rfl hK hP hD hS hA hN (pm1_tra _ _ _ _ _ _) (pm2_tra _ _ _ _ _ _) rfl hl.1 rfl (Nat.le_of_ble_eq_true rfl) dX4_fault_20 ⟨Nat.le_of_ble_eq_true rfl, Nat.le_of_ble_eq_true rfl⟩ (fun H locs hP hD hS => ?_)
    refine lv_aload_n hx hb dX4_fault_23 rfl (lv_at hl 0 rfl) ?_
    refine va_get (D := D) (ci := 4) (v := .ref (t 0)) (C := RX4) (T := TX4) (N := 4) hx hb ht i_X4 hown hK hP 0 rfl rfl 3 (by decide) (ht _ wd_141) (fun _ h9 => h9) rfl dX4_fault_24 ?_
    refine va_getN (D := D) (ci := 2) (v := .int (T4 2 3)) (C := RX2) (T := TX2) (N := 9) hx hb ht i_X2 hown hK hP 32 rfl rfl 6 (by decide) (va_Nw.use rfl (hN.1 _ _ _ _ _ _ wd_114)) (fun _ h9 => h9) rfl dX4_fault_27 ?_
    by_cases c7 : (T4 2 3) = (0 : Int32)
    · replace h := fp c7 h
      refine lv_lookup (off := 26) (tgt := 56) hx hb dX4_fault_30 (by decide) (by rw [c7]; decide) (by decide) ?_
      refine lv_ldc hx hb hown (ht _ wd_400) dX4_fault_56 ?_
      cases h
      exact rt_i hx hb hr hlocks hS hP hK hD dX4_fault_58
    · replace h := fn c7 h
      by_cases c8 : (T4 2 3) = (3 : Int32)
      · replace h := fp c8 h
        refine lv_lookup (off := 29) (tgt := 59) hx hb dX4_fault_30 (by decide) (by rw [c8]; decide) (by decide) ?_
        refine lv_iload_n hx hb dX4_fault_59 rfl (lv_at hl 1 rfl) ?_
        refine lv_iconst (v := (2 : Int32)) hx hb dX4_fault_60 (by decide) ?_
        refine lv_icmp_ne (tgt := 69) hx hb dX4_fault_61 (by decide) (fun c9 => ?_) (fun c9 => ?_)
        · replace h := fn c9 h
          refine lv_aload_n hx hb dX4_fault_69 rfl (lv_at hl 0 rfl) ?_
          refine va_get (D := D) (ci := 4) (v := .ref (t 0)) (C := RX4) (T := TX4) (N := 4) hx hb ht i_X4 hown hK hP 0 rfl rfl 3 (by decide) (ht _ wd_141) (fun _ h9 => h9) rfl dX4_fault_70 ?_
          refine lv_iload_n hx hb dX4_fault_73 rfl (lv_at hl 1 rfl) ?_
          obtain ⟨u10, e11, h⟩ := b1_ok h
          refine cp_Vi (ws' := (wX4 o a g ga f n t r cI cC cO L K P Hs S N T4 R5)) ⟨hx, hb, hml, hown, ht⟩ (c_X2_faultPart l D cI cC cO t r T4 R5 x1 _ _ e11) (cwv 1 ht wd_520 wd_5 wd_517 wd_518 wd_519 (by decide +kernel) rfl rfl ⟨Nat.le_of_ble_eq_true rfl, Nat.le_of_ble_eq_true rfl⟩) 2 0 rfl rfl rfl hK hP hD hS hA hN (pm1_tr _ _ _ _ _ _) (pm2_tr _ _ _ _ _ _) rfl hl.1 rfl (Nat.le_of_ble_eq_true rfl) dX4_fault_74 ⟨Nat.le_of_ble_eq_true rfl, Nat.le_of_ble_eq_true rfl⟩ (fun H locs hP hD hS => ?_)
          cases h
          exact rt_i hx hb hr hlocks hS hP hK hD dX4_fault_77
        · replace h := fp c9 h
          refine lv_ldc hx hb hown (ht _ wd_400) dX4_fault_64 ?_
          refine lv_goto (tgt := 77) hx hb dX4_fault_66 (by decide) ?_
          cases h
          exact rt_i hx hb hr hlocks hS hP hK hD dX4_fault_77
      · replace h := fn c8 h
        refine lv_lookup (off := 48) (tgt := 78) hx hb dX4_fault_30 (by decide) (by simp only [lookupswitch.offset_cons, lookupswitch.offset_nil, Array.toList]; rw [if_neg (lk_ne (k := 0) (by decide) c7), if_neg (lk_ne (k := 3) (by decide) c8)] <;> rfl) (by decide) ?_
        refine lv_aload_n hx hb dX4_fault_78 rfl (lv_at hl 0 rfl) ?_
        refine va_get (D := D) (ci := 4) (v := .ref (t 0)) (C := RX4) (T := TX4) (N := 4) hx hb ht i_X4 hown hK hP 0 rfl rfl 3 (by decide) (ht _ wd_141) (fun _ h9 => h9) rfl dX4_fault_79 ?_
        refine lv_iload_n hx hb dX4_fault_82 rfl (lv_at hl 1 rfl) ?_
        obtain ⟨u12, e13, h⟩ := b1_ok h
        refine cp_Vi (ws' := (wX4 o a g ga f n t r cI cC cO L K P Hs S N T4 R5)) ⟨hx, hb, hml, hown, ht⟩ (c_X2_faultPart l D cI cC cO t r T4 R5 x1 _ _ e13) (cwv 1 ht wd_520 wd_5 wd_517 wd_518 wd_519 (by decide +kernel) rfl rfl ⟨Nat.le_of_ble_eq_true rfl, Nat.le_of_ble_eq_true rfl⟩) 2 0 rfl rfl rfl hK hP hD hS hA hN (pm1_tr _ _ _ _ _ _) (pm2_tr _ _ _ _ _ _) rfl hl.1 rfl (Nat.le_of_ble_eq_true rfl) dX4_fault_83 ⟨Nat.le_of_ble_eq_true rfl, Nat.le_of_ble_eq_true rfl⟩ (fun H locs hP hD hS => ?_)
        cases h
        exact rt_i hx hb hr hlocks hS hP hK hD dX4_fault_86
  · replace h := fp c3 h
    refine lv_ldc hx hb hown (ht _ wd_162) dX4_fault_9 ?_
    cases h
    exact rt_i hx hb hr hlocks hS hP hK hD dX4_fault_11
theorem dX4_play_0 : decode cX4_play 0 = .ok (.aload_n 0, 1) := by decide +kernel
theorem dX4_play_1 : decode cX4_play 1 = .ok (.getfield 33, 3) := by decide +kernel
theorem dX4_play_4 : decode cX4_play 4 = .ok (.aload_n 0, 1) := by decide +kernel
theorem dX4_play_5 : decode cX4_play 5 = .ok (.getfield 10, 3) := by decide +kernel
theorem dX4_play_8 : decode cX4_play 8 = .ok (.invokevirtual 183, 3) := by decide +kernel
theorem dX4_play_11 : decode cX4_play 11 = .ok (.aload_n 0, 1) := by decide +kernel
theorem dX4_play_12 : decode cX4_play 12 = .ok (.getfield 33, 3) := by decide +kernel
theorem dX4_play_15 : decode cX4_play 15 = .ok (.getfield 186, 3) := by decide +kernel
theorem dX4_play_18 : decode cX4_play 18 = .ok (.ifCond .eq 6, 3) := by decide +kernel
theorem dX4_play_21 : decode cX4_play 21 = .ok (.ldc 172, 2) := by decide +kernel
theorem dX4_play_23 : decode cX4_play 23 = .ok (.ireturn, 1) := by decide +kernel
theorem dX4_play_24 : decode cX4_play 24 = .ok (.aload_n 0, 1) := by decide +kernel
theorem dX4_play_25 : decode cX4_play 25 = .ok (.getfield 19, 3) := by decide +kernel
theorem dX4_play_28 : decode cX4_play 28 = .ok (.aload_n 0, 1) := by decide +kernel
theorem dX4_play_29 : decode cX4_play 29 = .ok (.getfield 10, 3) := by decide +kernel
theorem dX4_play_32 : decode cX4_play 32 = .ok (.invokevirtual 47, 3) := by decide +kernel
theorem dX4_play_35 : decode cX4_play 35 = .ok (.aload_n 0, 1) := by decide +kernel
theorem dX4_play_36 : decode cX4_play 36 = .ok (.getfield 10, 3) := by decide +kernel
theorem dX4_play_39 : decode cX4_play 39 = .ok (.aload_n 0, 1) := by decide +kernel
theorem dX4_play_40 : decode cX4_play 40 = .ok (.getfield 33, 3) := by decide +kernel
theorem dX4_play_43 : decode cX4_play 43 = .ok (.getfield 192, 3) := by decide +kernel
theorem dX4_play_46 : decode cX4_play 46 = .ok (.invokevirtual 195, 3) := by decide +kernel
theorem dX4_play_49 : decode cX4_play 49 = .ok (.aload_n 0, 1) := by decide +kernel
theorem dX4_play_50 : decode cX4_play 50 = .ok (.getfield 33, 3) := by decide +kernel
theorem dX4_play_53 : decode cX4_play 53 = .ok (.getfield 198, 3) := by decide +kernel
theorem dX4_play_56 : decode cX4_play 56 = .ok (.ireturn, 1) := by decide +kernel
set_option maxHeartbeats 4000000 in
set_option maxRecDepth 100000 in
theorem c_X4_play (l : Launch) (D : va_G) (cI cC cO : ClassId) (o : Nat → Nat) (a : Nat → Nat) (g : Nat → Nat) (ga : Nat → Nat → Nat) (f : Nat → Nat) (n : Nat → Nat) (t : Nat → Nat) (r : Nat → Nat) (L : Mm) (K : Mm) (P : Nat → Nat) (Hs : Nat → Mm) (S : Mm) (N : Mm) (T : Mm) (R : Mm) (res : Int32 × Mm × Mm × (Nat → Nat) × (Nat → Mm) × Mm × Mm) (sz : Nat) (h : F_X4_play L K P Hs S N T R = some res) : Met l yX4_play (Cond.code yX4_play cX4_play 1 (Option.some Jvm.ClassFile.FieldType.int) :: lw_g) ({ frames := 6, cells := 0, slots := 0, locals := 136 } : Room) (va_Pc [.ref (o 0)] (pS D cI cC cO sz (wX4 o a g ga f n t r cI cC cO L K P Hs S N T R))) (QI D cI cC cO (va_A (wX4 o a g ga f n t r cI cC cO L K P Hs S N T R) sz) (wX4 o a g ga f n t r cI cC cO res.2.1 res.2.2.1 res.2.2.2.1 res.2.2.2.2.1 S N res.2.2.2.2.2.1 res.2.2.2.2.2.2) res.1) 0 0 (va_A (wX4 o a g ga f n t r cI cC cO L K P Hs S N T R) sz) := by
  refine Met.ofW (cc := cX4_play) (maxL := 1) (ret := (Option.some Jvm.ClassFile.FieldType.int)) (by decide) rfl ?_
  intro p e s m args below meth c s₁ B hml hv
  obtain ⟨rfl, rfl, hP, hK, hD0, hN⟩ := hv
  have hx := B.exec
  have hb := B.bytes
  have hr := B.returns
  have ht : ∀ w ∈ lw_g, w.before ([.ref (o 0)] : List Value).toArray s = true := fun w hw => atoms_spec (ws := Cond.code yX4_play cX4_play 1 (Option.some Jvm.ClassFile.FieldType.int) :: lw_g) B.pre w (List.mem_cons_of_mem _ hw)
  have hown : s.vm.findClass RX4 = some m.cls := findClass_of_methodNamed B.named
  have hlocks := B.notSynchronized
  have hD := hD0.self (sz := s.heap.size)
  generalize hAe : va_A (wX4 o a g ga f n t r cI cC cO L K P Hs S N T R) s.heap.size = A at hD ⊢
  have hA : ∀ q : Nat, s.heap.size ≤ q → A q := fun q hq => by rw [← hAe]; exact Or.inr hq
  have hS : va_S A s.heap s.heap [] := va_S.rf
  have hl := lv_entry ([.ref (o 0)]) (n := 1) (Nat.le_of_ble_eq_true rfl)
  rw [lg_entry_eq]
  generalize (lg_sl ([.ref (o 0)]) ++ List.replicate (1 - (lg_sl ([.ref (o 0)])).length) Slot.unset).toArray = ls at hl ⊢
  have hl : lv_has ls 1 [(0, .ref (o 0))] := hl
  unfold F_X4_play at h
  refine lv_aload_n hx hb dX4_play_0 rfl (lv_at hl 0 rfl) ?_
  refine va_get (D := D) (ci := 4) (v := .ref (t 0)) (C := RX4) (T := TX4) (N := 4) hx hb ht i_X4 hown hK hP 0 rfl rfl 3 (by decide) (ht _ wd_141) (fun _ h9 => h9) rfl dX4_play_1 ?_
  refine lv_aload_n hx hb dX4_play_4 rfl (lv_at hl 0 rfl) ?_
  refine va_get (D := D) (ci := 4) (v := .ref (a 0)) (C := RX4) (T := TX4) (N := 4) hx hb ht i_X4 hown hK hP 0 rfl rfl 0 (by decide) (ht _ wd_138) (fun _ h9 => h9) rfl dX4_play_5 ?_
  obtain ⟨T1, R2, e3, h⟩ := b2_ok h
  refine cp_Vv (ws' := (wX4 o a g ga f n t r cI cC cO L K P Hs S N T1 R2)) ⟨hx, hb, hml, hown, ht⟩ (c_X2_read l D cI cC cO t r a T R L _ _ e3) (cwv 1 ht wd_470 wd_5 wd_467 wd_468 wd_469 (by decide +kernel) rfl rfl ⟨Nat.le_of_ble_eq_true rfl, Nat.le_of_ble_eq_true rfl⟩) 2 0 rfl rfl rfl hK hP hD hS hA hN (pm1_tra _ _ _ _ _ _) (pm2_tra _ _ _ _ _ _) rfl hl.1 rfl (Nat.le_of_ble_eq_true rfl) dX4_play_8 ⟨Nat.le_of_ble_eq_true rfl, Nat.le_of_ble_eq_true rfl⟩ (fun H locs hP hD hS => ?_)
  refine lv_aload_n hx hb dX4_play_11 rfl (lv_at hl 0 rfl) ?_
  refine va_get (D := D) (ci := 4) (v := .ref (t 0)) (C := RX4) (T := TX4) (N := 4) hx hb ht i_X4 hown hK hP 0 rfl rfl 3 (by decide) (ht _ wd_141) (fun _ h9 => h9) rfl dX4_play_12 ?_
  refine va_getN (D := D) (ci := 2) (v := .int (T1 2 3)) (C := RX2) (T := TX2) (N := 9) hx hb ht i_X2 hown hK hP 32 rfl rfl 6 (by decide) (va_Nw.use rfl (hN.1 _ _ _ _ _ _ wd_114)) (fun _ h9 => h9) rfl dX4_play_15 ?_
  refine lv_if_eq (tgt := 24) hx hb dX4_play_18 (by decide) (fun c4 => ?_) (fun c4 => ?_)
  · replace h := fp c4 h
    refine lv_aload_n hx hb dX4_play_24 rfl (lv_at hl 0 rfl) ?_
    refine va_get (D := D) (ci := 4) (v := .ref (g 0)) (C := RX4) (T := TX4) (N := 4) hx hb ht i_X4 hown hK hP 0 rfl rfl 1 (by decide) (ht _ wd_139) (fun _ h9 => h9) rfl dX4_play_25 ?_
    refine lv_aload_n hx hb dX4_play_28 rfl (lv_at hl 0 rfl) ?_
    refine va_get (D := D) (ci := 4) (v := .ref (a 0)) (C := RX4) (T := TX4) (N := 4) hx hb ht i_X4 hown hK hP 0 rfl rfl 0 (by decide) (ht _ wd_138) (fun _ h9 => h9) rfl dX4_play_29 ?_
    obtain ⟨K5, P6, Hs7, e8, h⟩ := b3_ok h
    refine cp_Vv (ws' := (wX4 o a g ga f n t r cI cC cO L K5 P6 Hs7 S N T1 R2)) ⟨hx, hb, hml, hown, ht⟩ (c_X0_keep l D cI cC cO g ga a K P Hs L _ _ e8) (cwv 1 ht wd_171 wd_3 wd_168 wd_169 wd_170 (by decide +kernel) rfl rfl ⟨Nat.le_of_ble_eq_true rfl, Nat.le_of_ble_eq_true rfl⟩) 0 0 rfl rfl rfl hK hP hD hS hA hN (pm1_ga _ _ _ _ _ _) (pm2_ga _ _ _ _ _ _) rfl hl.1 rfl (Nat.le_of_ble_eq_true rfl) dX4_play_32 ⟨Nat.le_of_ble_eq_true rfl, Nat.le_of_ble_eq_true rfl⟩ (fun H locs hP hD hS => ?_)
    refine lv_aload_n hx hb dX4_play_35 rfl (lv_at hl 0 rfl) ?_
    refine va_get (D := D) (ci := 4) (v := .ref (a 0)) (C := RX4) (T := TX4) (N := 4) hx hb ht i_X4 hown hK hP 0 rfl rfl 0 (by decide) (ht _ wd_138) (fun _ h9 => h9) rfl dX4_play_36 ?_
    refine lv_aload_n hx hb dX4_play_39 rfl (lv_at hl 0 rfl) ?_
    refine va_get (D := D) (ci := 4) (v := .ref (t 0)) (C := RX4) (T := TX4) (N := 4) hx hb ht i_X4 hown hK hP 0 rfl rfl 3 (by decide) (ht _ wd_141) (fun _ h9 => h9) rfl dX4_play_40 ?_
    refine va_getN (D := D) (ci := 2) (v := .ref (r 0)) (C := RX2) (T := TX2) (N := 9) hx hb ht i_X2 hown hK hP 32 rfl rfl 2 (by decide) (va_Nw.use rfl (hN.1 _ _ _ _ _ _ wd_108)) (fun _ h9 => h9) rfl dX4_play_43 ?_
    obtain ⟨L9, e10, h⟩ := b1_ok h
    refine cp_Vv (ws' := (wX4 o a g ga f n t r cI cC cO L9 K5 P6 Hs7 S N T1 R2)) ⟨hx, hb, hml, hown, ht⟩ (c_X1_copyFrom l D cI cC cO a r L R2 _ _ e10) (cwv 1 ht wd_179 wd_2 wd_525 wd_177 wd_178 (by decide +kernel) rfl rfl ⟨Nat.le_of_ble_eq_true rfl, Nat.le_of_ble_eq_true rfl⟩) 1 0 rfl rfl rfl hK hP hD hS hA hN (pm1_ar _ _ _ _ _ _) (pm2_ar _ _ _ _ _ _) rfl hl.1 rfl (Nat.le_of_ble_eq_true rfl) dX4_play_46 ⟨Nat.le_of_ble_eq_true rfl, Nat.le_of_ble_eq_true rfl⟩ (fun H locs hP hD hS => ?_)
    refine lv_aload_n hx hb dX4_play_49 rfl (lv_at hl 0 rfl) ?_
    refine va_get (D := D) (ci := 4) (v := .ref (t 0)) (C := RX4) (T := TX4) (N := 4) hx hb ht i_X4 hown hK hP 0 rfl rfl 3 (by decide) (ht _ wd_141) (fun _ h9 => h9) rfl dX4_play_50 ?_
    refine va_getN (D := D) (ci := 2) (v := .int (T1 2 5)) (C := RX2) (T := TX2) (N := 9) hx hb ht i_X2 hown hK hP 32 rfl rfl 8 (by decide) (va_Nw.use rfl (hN.1 _ _ _ _ _ _ wd_117)) (fun _ h9 => h9) rfl dX4_play_53 ?_
    cases h
    exact rt_i hx hb hr hlocks hS hP hK hD dX4_play_56
  · replace h := fn c4 h
    refine lv_ldc hx hb hown (ht _ wd_441) dX4_play_21 ?_
    cases h
    exact rt_i hx hb hr hlocks hS hP hK hD dX4_play_23
