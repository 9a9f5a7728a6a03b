theorem dX3_mostWider_0 : decode cX3_mostWider 0 = .ok (.aload_n 0, 1) := by decide +kernel
theorem dX3_mostWider_1 : decode cX3_mostWider 1 = .ok (.getfield 14, 3) := by decide +kernel
theorem dX3_mostWider_4 : decode cX3_mostWider 4 = .ok (.aload_n 1, 1) := by decide +kernel
theorem dX3_mostWider_5 : decode cX3_mostWider 5 = .ok (.invokevirtual 38, 3) := by decide +kernel
theorem dX3_mostWider_8 : decode cX3_mostWider 8 = .ok (.aload_n 0, 1) := by decide +kernel
theorem dX3_mostWider_9 : decode cX3_mostWider 9 = .ok (.getfield 14, 3) := by decide +kernel
theorem dX3_mostWider_12 : decode cX3_mostWider 12 = .ok (.iload_n 2, 1) := by decide +kernel
theorem dX3_mostWider_13 : decode cX3_mostWider 13 = .ok (.iconst 3, 1) := by decide +kernel
theorem dX3_mostWider_14 : decode cX3_mostWider 14 = .ok (.aload_n 1, 1) := by decide +kernel
theorem dX3_mostWider_15 : decode cX3_mostWider 15 = .ok (.iload_n 2, 1) := by decide +kernel
theorem dX3_mostWider_16 : decode cX3_mostWider 16 = .ok (.iconst 3, 1) := by decide +kernel
theorem dX3_mostWider_17 : decode cX3_mostWider 17 = .ok (.invokevirtual 50, 3) := by decide +kernel
theorem dX3_mostWider_20 : decode cX3_mostWider 20 = .ok (.iconst 1, 1) := by decide +kernel
theorem dX3_mostWider_21 : decode cX3_mostWider 21 = .ok (.iadd, 1) := by decide +kernel
theorem dX3_mostWider_22 : decode cX3_mostWider 22 = .ok (.invokevirtual 46, 3) := by decide +kernel
theorem dX3_mostWider_25 : decode cX3_mostWider 25 = .ok (.aload_n 0, 1) := by decide +kernel
theorem dX3_mostWider_26 : decode cX3_mostWider 26 = .ok (.iload_n 3, 1) := by decide +kernel
theorem dX3_mostWider_27 : decode cX3_mostWider 27 = .ok (.invokevirtual 42, 3) := by decide +kernel
theorem dX3_mostWider_30 : decode cX3_mostWider 30 = .ok (.ireturn, 1) := by decide +kernel
set_option maxHeartbeats 4000000 in
set_option maxRecDepth 100000 in
theorem c_X3_mostWider (l : Launch) (D : va_G) (cI cC cO : ClassId) (f : Nat → Nat) (n : Nat → Nat) (b : Nat → Nat) (S : Mm) (N : Mm) (O : Mm) (x2 x3 : Int32) (res : Int32 × Mm × Mm) (sz : Nat) (h : F_X3_mostWider S N O x2 x3 = some res) : Met l yX3_mostWider (Cond.code yX3_mostWider cX3_mostWider 4 (Option.some Jvm.ClassFile.FieldType.int) :: lw_g) ({ frames := 5, cells := 0, slots := 0, locals := 117 } : Room) (va_Pc [.ref (f 0), .ref (b 0), .int x2, .int x3] (pS D cI cC cO sz ((wX3 f n cI cC cO S N) ++ (wX1 b cI cC cO O)))) (QI D cI cC cO (va_A ((wX3 f n cI cC cO S N) ++ (wX1 b cI cC cO O)) sz) ((wX3 f n cI cC cO res.2.1 res.2.2) ++ (wX1 b cI cC cO O)) res.1) 0 0 (va_A ((wX3 f n cI cC cO S N) ++ (wX1 b cI cC cO O)) sz) := by
  refine Met.ofW (cc := cX3_mostWider) (maxL := 4) (ret := (Option.some Jvm.ClassFile.FieldType.int)) (by decide) rfl ?_
  intro p e s m args below meth c s₁ B hml hv
  obtain ⟨rfl, rfl, hP, hK, hD0, hN⟩ := hv
  have hx := B.exec
  have hb := B.bytes
  have hr := B.returns
  have ht : ∀ w ∈ lw_g, w.before ([.ref (f 0), .ref (b 0), .int x2, .int x3] : List Value).toArray s = true := fun w hw => atoms_spec (ws := Cond.code yX3_mostWider cX3_mostWider 4 (Option.some Jvm.ClassFile.FieldType.int) :: lw_g) B.pre w (List.mem_cons_of_mem _ hw)
  have hown : s.vm.findClass RX3 = some m.cls := findClass_of_methodNamed B.named
  have hlocks := B.notSynchronized
  have hD := hD0.self (sz := s.heap.size)
  generalize hAe : va_A ((wX3 f n cI cC cO S N) ++ (wX1 b cI cC cO O)) s.heap.size = A at hD ⊢
  have hA : ∀ q : Nat, s.heap.size ≤ q → A q := fun q hq => by rw [← hAe]; exact Or.inr hq
  have hS : va_S A s.heap s.heap [] := va_S.rf
  have hl := lv_entry ([.ref (f 0), .ref (b 0), .int x2, .int x3]) (n := 4) (Nat.le_of_ble_eq_true rfl)
  rw [lg_entry_eq]
  generalize (lg_sl ([.ref (f 0), .ref (b 0), .int x2, .int x3]) ++ List.replicate (4 - (lg_sl ([.ref (f 0), .ref (b 0), .int x2, .int x3])).length) Slot.unset).toArray = ls at hl ⊢
  have hl : lv_has ls 4 [(0, .ref (f 0)), (1, .ref (b 0)), (2, .int x2), (3, .int x3)] := hl
  unfold F_X3_mostWider at h
  refine lv_aload_n hx hb dX3_mostWider_0 rfl (lv_at hl 0 rfl) ?_
  refine va_get (D := D) (ci := 3) (v := .ref (n 0)) (C := RX3) (T := TX3) (N := 7) hx hb ht i_X3 hown hK hP 0 rfl rfl 0 (by decide) (ht _ wd_75) (fun _ h9 => h9) rfl dX3_mostWider_1 ?_
  refine lv_aload_n hx hb dX3_mostWider_4 rfl (lv_at hl 1 rfl) ?_
  obtain ⟨N1, e2, h⟩ := b1_ok h
  refine cl_Vv (ws' := ((wX3 f n cI cC cO S N1) ++ (wX1 b cI cC cO O))) ⟨hx, hb, hml, hown, ht⟩ (c_X1_copyFrom l D cI cC cO n b N O _ _ e2) (cwv 1 ht wd_179 wd_2 wd_283 wd_177 wd_178 (by decide +kernel) rfl rfl ⟨Nat.le_of_ble_eq_true rfl, Nat.le_of_ble_eq_true rfl⟩) 1 0 rfl rfl rfl hK hP hD hS hA hN [5, 6, 7, 8, 9, 10, 11, 12] [0, 1, 2, 3, 4] [0, 1, 2, 3, 4, 5, 6, 7, 8, 9, 10, 11, 12] (by decide) rfl rfl (by decide) (by decide) rfl (by decide) rfl hl.1 rfl (Nat.le_of_ble_eq_true rfl) dX3_mostWider_5 ⟨Nat.le_of_ble_eq_true rfl, Nat.le_of_ble_eq_true rfl⟩ (fun H locs hP hD hS => ?_)
  refine lv_aload_n hx hb dX3_mostWider_8 rfl (lv_at hl 0 rfl) ?_
  refine va_get (D := D) (ci := 3) (v := .ref (n 0)) (C := RX3) (T := TX3) (N := 7) hx hb ht i_X3 hown hK hP 0 rfl rfl 0 (by decide) (ht _ wd_75) (fun _ h9 => h9) rfl dX3_mostWider_9 ?_
  refine lv_iload_n hx hb dX3_mostWider_12 rfl (lv_at hl 2 rfl) ?_
  refine lv_iconst (v := (3 : Int32)) hx hb dX3_mostWider_13 (by decide) ?_
  refine lv_aload_n hx hb dX3_mostWider_14 rfl (lv_at hl 1 rfl) ?_
  refine lv_iload_n hx hb dX3_mostWider_15 rfl (lv_at hl 2 rfl) ?_
  refine lv_iconst (v := (3 : Int32)) hx hb dX3_mostWider_16 (by decide) ?_
  obtain ⟨u3, e4, h⟩ := b1_ok h
  refine cl_Vi (ws' := ((wX3 f n cI cC cO S N1) ++ (wX1 b cI cC cO O))) ⟨hx, hb, hml, hown, ht⟩ (c_X1_partOf l D cI cC cO b O x2 (3 : Int32) _ _ e4) (cwv 2 ht wd_251 wd_2 wd_332 wd_249 wd_250 (by decide +kernel) rfl rfl ⟨Nat.le_of_ble_eq_true rfl, Nat.le_of_ble_eq_true rfl⟩) 1 0 rfl rfl rfl hK hP hD hS hA hN [9, 10, 11, 12] [0, 1, 2, 3, 4, 5, 6, 7, 8] [0, 1, 2, 3, 4, 5, 6, 7, 8, 9, 10, 11, 12] (by decide) rfl rfl (by decide) (by decide) rfl (by decide) rfl hl.1 rfl (Nat.le_of_ble_eq_true rfl) dX3_mostWider_17 ⟨Nat.le_of_ble_eq_true rfl, Nat.le_of_ble_eq_true rfl⟩ (fun H locs hP hD hS => ?_)
  refine lv_iconst (v := (1 : Int32)) hx hb dX3_mostWider_20 (by decide) ?_
  refine lv_iadd hx hb dX3_mostWider_21 ?_
  obtain ⟨N5, e6, h⟩ := b1_ok h
  refine cl_Vv (ws' := ((wX3 f n cI cC cO S N5) ++ (wX1 b cI cC cO O))) ⟨hx, hb, hml, hown, ht⟩ (c_X1_setPart l D cI cC cO n N1 x2 (3 : Int32) (u3 + (1 : Int32)) _ _ e6) (cwv 3 ht wd_210 wd_2 wd_412 wd_208 wd_209 (by decide +kernel) rfl rfl ⟨Nat.le_of_ble_eq_true rfl, Nat.le_of_ble_eq_true rfl⟩) 1 0 rfl rfl rfl hK hP hD hS hA hN [5, 6, 7, 8] [0, 1, 2, 3, 4, 9, 10, 11, 12] [0, 1, 2, 3, 4, 9, 10, 11, 12, 5, 6, 7, 8] (by decide) rfl rfl (by decide) (by decide) rfl (by decide) rfl hl.1 rfl (Nat.le_of_ble_eq_true rfl) dX3_mostWider_22 ⟨Nat.le_of_ble_eq_true rfl, Nat.le_of_ble_eq_true rfl⟩ (fun H locs hP hD hS => ?_)
  refine lv_aload_n hx hb dX3_mostWider_25 rfl (lv_at hl 0 rfl) ?_
  refine lv_iload_n hx hb dX3_mostWider_26 rfl (lv_at hl 3 rfl) ?_
  obtain ⟨u7, S8, e9, h⟩ := b2_ok h
  refine cl_Vi (ws' := ((wX3 f n cI cC cO S8 N5) ++ (wX1 b cI cC cO O))) ⟨hx, hb, hml, hown, ht⟩ (c_X3_mostBy l D cI cC cO f n S N5 x3 _ _ e9) (cwv 1 ht wd_353 wd_4 wd_350 wd_352 ws_9 (by decide +kernel) rfl rfl ⟨Nat.le_of_ble_eq_true rfl, Nat.le_of_ble_eq_true rfl⟩) 3 0 rfl rfl rfl hK hP hD hS hA hN [0, 1, 2, 3, 4, 5, 6, 7, 8] [9, 10, 11, 12] [4, 5, 6, 7, 8, 9, 10, 11, 12, 0, 1, 2, 3] (by decide) rfl rfl (by decide) (by decide) rfl (by decide) rfl hl.1 rfl (Nat.le_of_ble_eq_true rfl) dX3_mostWider_27 ⟨Nat.le_of_ble_eq_true rfl, Nat.le_of_ble_eq_true rfl⟩ (fun H locs hP hD hS => ?_)
  cases h
  exact rt_i hx hb hr hlocks hS hP hK hD dX3_mostWider_30
theorem dX3_mostWithUnit_0 : decode cX3_mostWithUnit 0 = .ok (.aload_n 0, 1) := by decide +kernel
theorem dX3_mostWithUnit_1 : decode cX3_mostWithUnit 1 = .ok (.getfield 14, 3) := by decide +kernel
theorem dX3_mostWithUnit_4 : decode cX3_mostWithUnit 4 = .ok (.aload_n 1, 1) := by decide +kernel
theorem dX3_mostWithUnit_5 : decode cX3_mostWithUnit 5 = .ok (.invokevirtual 38, 3) := by decide +kernel
theorem dX3_mostWithUnit_8 : decode cX3_mostWithUnit 8 = .ok (.aload_n 0, 1) := by decide +kernel
theorem dX3_mostWithUnit_9 : decode cX3_mostWithUnit 9 = .ok (.getfield 14, 3) := by decide +kernel
theorem dX3_mostWithUnit_12 : decode cX3_mostWithUnit 12 = .ok (.getfield 54, 3) := by decide +kernel
theorem dX3_mostWithUnit_15 : decode cX3_mostWithUnit 15 = .ok (.iload_n 2, 1) := by decide +kernel
theorem dX3_mostWithUnit_16 : decode cX3_mostWithUnit 16 = .ok (.dup2, 1) := by decide +kernel
theorem dX3_mostWithUnit_17 : decode cX3_mostWithUnit 17 = .ok (.iaload, 1) := by decide +kernel
theorem dX3_mostWithUnit_18 : decode cX3_mostWithUnit 18 = .ok (.iconst 1, 1) := by decide +kernel
theorem dX3_mostWithUnit_19 : decode cX3_mostWithUnit 19 = .ok (.iadd, 1) := by decide +kernel
theorem dX3_mostWithUnit_20 : decode cX3_mostWithUnit 20 = .ok (.iastore, 1) := by decide +kernel
theorem dX3_mostWithUnit_21 : decode cX3_mostWithUnit 21 = .ok (.aload_n 0, 1) := by decide +kernel
theorem dX3_mostWithUnit_22 : decode cX3_mostWithUnit 22 = .ok (.iload_n 3, 1) := by decide +kernel
theorem dX3_mostWithUnit_23 : decode cX3_mostWithUnit 23 = .ok (.invokevirtual 42, 3) := by decide +kernel
theorem dX3_mostWithUnit_26 : decode cX3_mostWithUnit 26 = .ok (.ireturn, 1) := by decide +kernel
set_option maxHeartbeats 4000000 in
set_option maxRecDepth 100000 in
theorem c_X3_mostWithUnit (l : Launch) (D : va_G) (cI cC cO : ClassId) (f : Nat → Nat) (n : Nat → Nat) (b : Nat → Nat) (S : Mm) (N : Mm) (O : Mm) (x2 x3 : Int32) (res : Int32 × Mm × Mm) (sz : Nat) (h : F_X3_mostWithUnit S N O x2 x3 = some res) : Met l yX3_mostWithUnit (Cond.code yX3_mostWithUnit cX3_mostWithUnit 4 (Option.some Jvm.ClassFile.FieldType.int) :: lw_g) ({ frames := 5, cells := 0, slots := 0, locals := 117 } : Room) (va_Pc [.ref (f 0), .ref (b 0), .int x2, .int x3] (pS D cI cC cO sz ((wX3 f n cI cC cO S N) ++ (wX1 b cI cC cO O)))) (QI D cI cC cO (va_A ((wX3 f n cI cC cO S N) ++ (wX1 b cI cC cO O)) sz) ((wX3 f n cI cC cO res.2.1 res.2.2) ++ (wX1 b cI cC cO O)) res.1) 0 0 (va_A ((wX3 f n cI cC cO S N) ++ (wX1 b cI cC cO O)) sz) := by
  refine Met.ofW (cc := cX3_mostWithUnit) (maxL := 4) (ret := (Option.some Jvm.ClassFile.FieldType.int)) (by decide) rfl ?_
  intro p e s m args below meth c s₁ B hml hv
  obtain ⟨rfl, rfl, hP, hK, hD0, hN⟩ := hv
  have hx := B.exec
  have hb := B.bytes
  have hr := B.returns
  have ht : ∀ w ∈ lw_g, w.before ([.ref (f 0), .ref (b 0), .int x2, .int x3] : List Value).toArray s = true := fun w hw => atoms_spec (ws := Cond.code yX3_mostWithUnit cX3_mostWithUnit 4 (Option.some Jvm.ClassFile.FieldType.int) :: lw_g) B.pre w (List.mem_cons_of_mem _ hw)
  have hown : s.vm.findClass RX3 = some m.cls := findClass_of_methodNamed B.named
  have hlocks := B.notSynchronized
  have hD := hD0.self (sz := s.heap.size)
  generalize hAe : va_A ((wX3 f n cI cC cO S N) ++ (wX1 b cI cC cO O)) s.heap.size = A at hD ⊢
  have hA : ∀ q : Nat, s.heap.size ≤ q → A q := fun q hq => by rw [← hAe]; exact Or.inr hq
  have hS : va_S A s.heap s.heap [] := va_S.rf
  have hl := lv_entry ([.ref (f 0), .ref (b 0), .int x2, .int x3]) (n := 4) (Nat.le_of_ble_eq_true rfl)
  rw [lg_entry_eq]
  generalize (lg_sl ([.ref (f 0), .ref (b 0), .int x2, .int x3]) ++ List.replicate (4 - (lg_sl ([.ref (f 0), .ref (b 0), .int x2, .int x3])).length) Slot.unset).toArray = ls at hl ⊢
  have hl : lv_has ls 4 [(0, .ref (f 0)), (1, .ref (b 0)), (2, .int x2), (3, .int x3)] := hl
  unfold F_X3_mostWithUnit at h
  refine lv_aload_n hx hb dX3_mostWithUnit_0 rfl (lv_at hl 0 rfl) ?_
  refine va_get (D := D) (ci := 3) (v := .ref (n 0)) (C := RX3) (T := TX3) (N := 7) hx hb ht i_X3 hown hK hP 0 rfl rfl 0 (by decide) (ht _ wd_75) (fun _ h9 => h9) rfl dX3_mostWithUnit_1 ?_
  refine lv_aload_n hx hb dX3_mostWithUnit_4 rfl (lv_at hl 1 rfl) ?_
  obtain ⟨N1, e2, h⟩ := b1_ok h
  refine cl_Vv (ws' := ((wX3 f n cI cC cO S N1) ++ (wX1 b cI cC cO O))) ⟨hx, hb, hml, hown, ht⟩ (c_X1_copyFrom l D cI cC cO n b N O _ _ e2) (cwv 1 ht wd_179 wd_2 wd_283 wd_177 wd_178 (by decide +kernel) rfl rfl ⟨Nat.le_of_ble_eq_true rfl, Nat.le_of_ble_eq_true rfl⟩) 1 0 rfl rfl rfl hK hP hD hS hA hN [5, 6, 7, 8, 9, 10, 11, 12] [0, 1, 2, 3, 4] [0, 1, 2, 3, 4, 5, 6, 7, 8, 9, 10, 11, 12] (by decide) rfl rfl (by decide) (by decide) rfl (by decide) rfl hl.1 rfl (Nat.le_of_ble_eq_true rfl) dX3_mostWithUnit_5 ⟨Nat.le_of_ble_eq_true rfl, Nat.le_of_ble_eq_true rfl⟩ (fun H locs hP hD hS => ?_)
  refine lv_aload_n hx hb dX3_mostWithUnit_8 rfl (lv_at hl 0 rfl) ?_
  refine va_get (D := D) (ci := 3) (v := .ref (n 0)) (C := RX3) (T := TX3) (N := 7) hx hb ht i_X3 hown hK hP 0 rfl rfl 0 (by decide) (ht _ wd_75) (fun _ h9 => h9) rfl dX3_mostWithUnit_9 ?_
  refine va_getN (D := D) (ci := 1) (v := .ref (n 1)) (C := RX1) (T := TX1) (N := 5) hx hb ht i_X1 hown hK hP 5 rfl rfl 0 (by decide) (va_Nw.use rfl (hN.1 _ _ _ _ _ _ wd_25)) (fun _ h9 => h9) rfl dX3_mostWithUnit_12 ?_
  refine lv_iload_n hx hb dX3_mostWithUnit_15 rfl (lv_at hl 2 rfl) ?_
  refine lv_dup2_11 hx hb dX3_mostWithUnit_16 rfl rfl ?_
  obtain ⟨i3, h⟩ := ck_ok h
  refine va_iald hx hb hK hP 6 0 rfl rfl i3 dX3_mostWithUnit_17 ?_
  refine lv_iconst (v := (1 : Int32)) hx hb dX3_mostWithUnit_18 (by decide) ?_
  refine lv_iadd hx hb dX3_mostWithUnit_19 ?_
  obtain ⟨i4, h⟩ := ck_ok h
  refine va_iast hx hb hK hP hD hS 6 0 rfl rfl i4 dX3_mostWithUnit_20 (fun H locs hP hD hS => ?_)
  obtain ⟨N5, e6, h⟩ := sv_ok h
  have hP : va_P D classes ((wX3 f n cI cC cO S N5) ++ (wX1 b cI cC cO O)) H := by rw [← e6]; exact hP
  have hD : va_D A ((wX3 f n cI cC cO S N5) ++ (wX1 b cI cC cO O)) := by rw [← e6]; exact hD
  refine lv_aload_n hx hb dX3_mostWithUnit_21 rfl (lv_at hl 0 rfl) ?_
  refine lv_iload_n hx hb dX3_mostWithUnit_22 rfl (lv_at hl 3 rfl) ?_
  obtain ⟨u7, S8, e9, h⟩ := b2_ok h
  refine cl_Vi (ws' := ((wX3 f n cI cC cO S8 N5) ++ (wX1 b cI cC cO O))) ⟨hx, hb, hml, hown, ht⟩ (c_X3_mostBy l D cI cC cO f n S N5 x3 _ _ e9) (cwv 1 ht wd_353 wd_4 wd_350 wd_352 ws_9 (by decide +kernel) rfl rfl ⟨Nat.le_of_ble_eq_true rfl, Nat.le_of_ble_eq_true rfl⟩) 3 0 rfl rfl rfl hK hP hD hS hA hN [0, 1, 2, 3, 4, 5, 6, 7, 8] [9, 10, 11, 12] [4, 5, 6, 7, 8, 9, 10, 11, 12, 0, 1, 2, 3] (by decide) rfl rfl (by decide) (by decide) rfl (by decide) rfl hl.1 rfl (Nat.le_of_ble_eq_true rfl) dX3_mostWithUnit_23 ⟨Nat.le_of_ble_eq_true rfl, Nat.le_of_ble_eq_true rfl⟩ (fun H locs hP hD hS => ?_)
  cases h
  exact rt_i hx hb hr hlocks hS hP hK hD dX3_mostWithUnit_26
theorem dX3_mostRepeated_0 : decode cX3_mostRepeated 0 = .ok (.aload_n 0, 1) := by decide +kernel
theorem dX3_mostRepeated_1 : decode cX3_mostRepeated 1 = .ok (.getfield 14, 3) := by decide +kernel
theorem dX3_mostRepeated_4 : decode cX3_mostRepeated 4 = .ok (.aload_n 1, 1) := by decide +kernel
theorem dX3_mostRepeated_5 : decode cX3_mostRepeated 5 = .ok (.invokevirtual 38, 3) := by decide +kernel
theorem dX3_mostRepeated_8 : decode cX3_mostRepeated 8 = .ok (.aload_n 0, 1) := by decide +kernel
theorem dX3_mostRepeated_9 : decode cX3_mostRepeated 9 = .ok (.getfield 14, 3) := by decide +kernel
theorem dX3_mostRepeated_12 : decode cX3_mostRepeated 12 = .ok (.getfield 54, 3) := by decide +kernel
theorem dX3_mostRepeated_15 : decode cX3_mostRepeated 15 = .ok (.iconst 0, 1) := by decide +kernel
theorem dX3_mostRepeated_16 : decode cX3_mostRepeated 16 = .ok (.invokestatic 57, 3) := by decide +kernel
theorem dX3_mostRepeated_19 : decode cX3_mostRepeated 19 = .ok (.aload_n 0, 1) := by decide +kernel
theorem dX3_mostRepeated_20 : decode cX3_mostRepeated 20 = .ok (.getfield 14, 3) := by decide +kernel
theorem dX3_mostRepeated_23 : decode cX3_mostRepeated 23 = .ok (.getfield 63, 3) := by decide +kernel
theorem dX3_mostRepeated_26 : decode cX3_mostRepeated 26 = .ok (.iconst 0, 1) := by decide +kernel
theorem dX3_mostRepeated_27 : decode cX3_mostRepeated 27 = .ok (.invokestatic 57, 3) := by decide +kernel
theorem dX3_mostRepeated_30 : decode cX3_mostRepeated 30 = .ok (.aload_n 0, 1) := by decide +kernel
theorem dX3_mostRepeated_31 : decode cX3_mostRepeated 31 = .ok (.getfield 14, 3) := by decide +kernel
theorem dX3_mostRepeated_34 : decode cX3_mostRepeated 34 = .ok (.getfield 54, 3) := by decide +kernel
theorem dX3_mostRepeated_37 : decode cX3_mostRepeated 37 = .ok (.iload_n 2, 1) := by decide +kernel
theorem dX3_mostRepeated_38 : decode cX3_mostRepeated 38 = .ok (.ldc 66, 2) := by decide +kernel
theorem dX3_mostRepeated_40 : decode cX3_mostRepeated 40 = .ok (.iastore, 1) := by decide +kernel
theorem dX3_mostRepeated_41 : decode cX3_mostRepeated 41 = .ok (.aload_n 0, 1) := by decide +kernel
theorem dX3_mostRepeated_42 : decode cX3_mostRepeated 42 = .ok (.getfield 14, 3) := by decide +kernel
theorem dX3_mostRepeated_45 : decode cX3_mostRepeated 45 = .ok (.getfield 63, 3) := by decide +kernel
theorem dX3_mostRepeated_48 : decode cX3_mostRepeated 48 = .ok (.iload_n 2, 1) := by decide +kernel
theorem dX3_mostRepeated_49 : decode cX3_mostRepeated 49 = .ok (.ldc 66, 2) := by decide +kernel
theorem dX3_mostRepeated_51 : decode cX3_mostRepeated 51 = .ok (.iastore, 1) := by decide +kernel
theorem dX3_mostRepeated_52 : decode cX3_mostRepeated 52 = .ok (.iconst 0, 1) := by decide +kernel
theorem dX3_mostRepeated_53 : decode cX3_mostRepeated 53 = .ok (.istore 4, 2) := by decide +kernel
theorem dX3_mostRepeated_55 : decode cX3_mostRepeated 55 = .ok (.iload 4, 2) := by decide +kernel
theorem dX3_mostRepeated_57 : decode cX3_mostRepeated 57 = .ok (.aload_n 0, 1) := by decide +kernel
theorem dX3_mostRepeated_58 : decode cX3_mostRepeated 58 = .ok (.getfield 14, 3) := by decide +kernel
theorem dX3_mostRepeated_61 : decode cX3_mostRepeated 61 = .ok (.getfield 67, 3) := by decide +kernel
theorem dX3_mostRepeated_64 : decode cX3_mostRepeated 64 = .ok (.if_icmp .ge 21, 3) := by decide +kernel
theorem dX3_mostRepeated_67 : decode cX3_mostRepeated 67 = .ok (.aload_n 0, 1) := by decide +kernel
theorem dX3_mostRepeated_68 : decode cX3_mostRepeated 68 = .ok (.getfield 14, 3) := by decide +kernel
theorem dX3_mostRepeated_71 : decode cX3_mostRepeated 71 = .ok (.iload 4, 2) := by decide +kernel
theorem dX3_mostRepeated_73 : decode cX3_mostRepeated 73 = .ok (.iconst 0, 1) := by decide +kernel
theorem dX3_mostRepeated_74 : decode cX3_mostRepeated 74 = .ok (.bipush 15, 2) := by decide +kernel
theorem dX3_mostRepeated_76 : decode cX3_mostRepeated 76 = .ok (.invokevirtual 70, 3) := by decide +kernel
theorem dX3_mostRepeated_79 : decode cX3_mostRepeated 79 = .ok (.iinc 4 1, 3) := by decide +kernel
theorem dX3_mostRepeated_82 : decode cX3_mostRepeated 82 = .ok (.goto (-27), 3) := by decide +kernel
theorem dX3_mostRepeated_85 : decode cX3_mostRepeated 85 = .ok (.aload_n 0, 1) := by decide +kernel
theorem dX3_mostRepeated_86 : decode cX3_mostRepeated 86 = .ok (.iload_n 3, 1) := by decide +kernel
theorem dX3_mostRepeated_87 : decode cX3_mostRepeated 87 = .ok (.invokevirtual 42, 3) := by decide +kernel
theorem dX3_mostRepeated_90 : decode cX3_mostRepeated 90 = .ok (.ireturn, 1) := by decide +kernel
set_option maxHeartbeats 4000000 in
set_option maxRecDepth 100000 in
theorem c_X3_mostRepeated (l : Launch) (D : va_G) (cI cC cO : ClassId) (f : Nat → Nat) (n : Nat → Nat) (b : Nat → Nat) (S : Mm) (N : Mm) (O : Mm) (x2 x3 : Int32) (res : Int32 × Mm × Mm) (sz : Nat) (h : F_X3_mostRepeated S N O x2 x3 = some res) : Met l yX3_mostRepeated (Cond.code yX3_mostRepeated cX3_mostRepeated 5 (Option.some Jvm.ClassFile.FieldType.int) :: lw_g) ({ frames := 5, cells := 0, slots := 0, locals := 117 } : Room) (va_Pc [.ref (f 0), .ref (b 0), .int x2, .int x3] (pS D cI cC cO sz ((wX3 f n cI cC cO S N) ++ (wX1 b cI cC cO O)))) (QI D cI cC cO (va_A ((wX3 f n cI cC cO S N) ++ (wX1 b cI cC cO O)) sz) ((wX3 f n cI cC cO res.2.1 res.2.2) ++ (wX1 b cI cC cO O)) res.1) 0 0 (va_A ((wX3 f n cI cC cO S N) ++ (wX1 b cI cC cO O)) sz) := by
  refine Met.ofW (cc := cX3_mostRepeated) (maxL := 5) (ret := (Option.some Jvm.ClassFile.FieldType.int)) (by decide) rfl ?_
  intro p e s m args below meth c s₁ B hml hv
  obtain ⟨rfl, rfl, hP, hK, hD0, hN⟩ := hv
  have hx := B.exec
  have hb := B.bytes
  have hr := B.returns
  have ht : ∀ w ∈ lw_g, w.before ([.ref (f 0), .ref (b 0), .int x2, .int x3] : List Value).toArray s = true := fun w hw => atoms_spec (ws := Cond.code yX3_mostRepeated cX3_mostRepeated 5 (Option.some Jvm.ClassFile.FieldType.int) :: lw_g) B.pre w (List.mem_cons_of_mem _ hw)
  have hown : s.vm.findClass RX3 = some m.cls := findClass_of_methodNamed B.named
  have hlocks := B.notSynchronized
  have hD := hD0.self (sz := s.heap.size)
  generalize hAe : va_A ((wX3 f n cI cC cO S N) ++ (wX1 b cI cC cO O)) s.heap.size = A at hD ⊢
  have hA : ∀ q : Nat, s.heap.size ≤ q → A q := fun q hq => by rw [← hAe]; exact Or.inr hq
  have hS : va_S A s.heap s.heap [] := va_S.rf
  have hl := lv_entry ([.ref (f 0), .ref (b 0), .int x2, .int x3]) (n := 5) (Nat.le_of_ble_eq_true rfl)
  rw [lg_entry_eq]
  generalize (lg_sl ([.ref (f 0), .ref (b 0), .int x2, .int x3]) ++ List.replicate (5 - (lg_sl ([.ref (f 0), .ref (b 0), .int x2, .int x3])).length) Slot.unset).toArray = ls at hl ⊢
  have hl : lv_has ls 5 [(0, .ref (f 0)), (1, .ref (b 0)), (2, .int x2), (3, .int x3)] := hl
  have w55 : ∀ (n55 : Nat) (S : Mm) (N : Mm) (y3 y4 : Int32) (H : Heap) (locs : List Loc) (ls : Array Slot), F_X3_mostRepeated_55 n55 S N O y3 y4 = some res → va_P D classes ((wX3 f n cI cC cO S N) ++ (wX1 b cI cC cO O)) H → va_D A ((wX3 f n cI cC cO S N) ++ (wX1 b cI cC cO O)) → va_S A s.heap H locs → lv_has ls 5 [(0, .ref (f 0)), (3, .int y3), (4, .int y4)] → W p l e ({ frames := 5, cells := 0, slots := 0, locals := 117 } : Room) s m ([.ref (f 0), .ref (b 0), .int x2, .int x3] : List Value).toArray below meth c H locs 0 0 (MQ below (QI D cI cC cO A ((wX3 f n cI cC cO res.2.1 res.2.2) ++ (wX1 b cI cC cO O)) res.1) ([.ref (f 0), .ref (b 0), .int x2, .int x3] : List Value).toArray s 0 0 A) (F0 m 55 ls []) := by
    intro n55
    induction n55 with
    | zero => intro S N y3 y4 H locs ls h hP hD hS hl; exact absurd (show (none : Option (Int32 × Mm × Mm)) = some res from h) (by simp)
    | succ n55 ih55 =>
      intro S N y3 y4 H locs ls h hP hD hS hl
      have h : F_X3_mostRepeatedB_55 (F_X3_mostRepeated_55 n55) S N O y3 y4 = some res := h
      unfold F_X3_mostRepeatedB_55 at h
      refine lv_iload hx hb dX3_mostRepeated_55 (lv_at hl 2 rfl) ?_
      refine lv_aload_n hx hb dX3_mostRepeated_57 rfl (lv_at hl 0 rfl) ?_
      refine va_get (D := D) (ci := 3) (v := .ref (n 0)) (C := RX3) (T := TX3) (N := 7) hx hb ht i_X3 hown hK hP 0 rfl rfl 0 (by decide) (ht _ wd_75) (fun _ h9 => h9) rfl dX3_mostRepeated_58 ?_
      refine va_getN (D := D) (ci := 1) (v := .int (N 3 1)) (C := RX1) (T := TX1) (N := 5) hx hb ht i_X1 hown hK hP 5 rfl rfl 4 (by decide) (va_Nw.use rfl (hN.1 _ _ _ _ _ _ wd_37)) (fun _ h9 => h9) rfl dX3_mostRepeated_61 ?_
      refine lv_icmp_ge (tgt := 85) hx hb dX3_mostRepeated_64 (by decide) (fun c1 => ?_) (fun c1 => ?_)
      · replace h := fp c1 h
        refine lv_aload_n hx hb dX3_mostRepeated_85 rfl (lv_at hl 0 rfl) ?_
        refine lv_iload_n hx hb dX3_mostRepeated_86 rfl (lv_at hl 1 rfl) ?_
        obtain ⟨u2, S3, e4, h⟩ := b2_ok h
        refine cl_Vi (ws' := ((wX3 f n cI cC cO S3 N) ++ (wX1 b cI cC cO O))) ⟨hx, hb, hml, hown, ht⟩ (c_X3_mostBy l D cI cC cO f n S N y3 _ _ e4) (cwv 1 ht wd_353 wd_4 wd_350 wd_352 ws_9 (by decide +kernel) rfl rfl ⟨Nat.le_of_ble_eq_true rfl, Nat.le_of_ble_eq_true rfl⟩) 3 0 rfl rfl rfl hK hP hD hS hA hN [0, 1, 2, 3, 4, 5, 6, 7, 8] [9, 10, 11, 12] [4, 5, 6, 7, 8, 9, 10, 11, 12, 0, 1, 2, 3] (by decide) rfl rfl (by decide) (by decide) rfl (by decide) rfl hl.1 rfl (Nat.le_of_ble_eq_true rfl) dX3_mostRepeated_87 ⟨Nat.le_of_ble_eq_true rfl, Nat.le_of_ble_eq_true rfl⟩ (fun H locs hP hD hS => ?_)
        cases h
        exact rt_i hx hb hr hlocks hS hP hK hD dX3_mostRepeated_90
      · replace h := fn c1 h
        refine lv_aload_n hx hb dX3_mostRepeated_67 rfl (lv_at hl 0 rfl) ?_
        refine va_get (D := D) (ci := 3) (v := .ref (n 0)) (C := RX3) (T := TX3) (N := 7) hx hb ht i_X3 hown hK hP 0 rfl rfl 0 (by decide) (ht _ wd_75) (fun _ h9 => h9) rfl dX3_mostRepeated_68 ?_
        refine lv_iload hx hb dX3_mostRepeated_71 (lv_at hl 2 rfl) ?_
        refine lv_iconst (v := (0 : Int32)) hx hb dX3_mostRepeated_73 (by decide) ?_
        refine lv_bipush (v := (15 : Int32)) hx hb dX3_mostRepeated_74 (by decide) ?_
        obtain ⟨N5, e6, h⟩ := b1_ok h
        refine cl_Vv (ws' := ((wX3 f n cI cC cO S N5) ++ (wX1 b cI cC cO O))) ⟨hx, hb, hml, hown, ht⟩ (c_X1_setOpening l D cI cC cO n N y4 (0 : Int32) (15 : Int32) _ _ e6) (cwv 3 ht wd_214 wd_2 wd_374 wd_212 wd_213 (by decide +kernel) rfl rfl ⟨Nat.le_of_ble_eq_true rfl, Nat.le_of_ble_eq_true rfl⟩) 1 0 rfl rfl rfl hK hP hD hS hA hN [5, 6, 7, 8] [0, 1, 2, 3, 4, 9, 10, 11, 12] [0, 1, 2, 3, 4, 9, 10, 11, 12, 5, 6, 7, 8] (by decide) rfl rfl (by decide) (by decide) rfl (by decide) rfl hl.1 rfl (Nat.le_of_ble_eq_true rfl) dX3_mostRepeated_76 ⟨Nat.le_of_ble_eq_true rfl, Nat.le_of_ble_eq_true rfl⟩ (fun H locs hP hD hS => ?_)
        refine lv_iinc (v := (y4 + 1)) (lv' := [(4, .int (y4 + 1)), (0, .ref (f 0)), (3, .int y3)]) hx hb dX3_mostRepeated_79 hl (k := 2) rfl rfl (by decide) rfl (fun ls hl => ?_)
        refine lv_goto (tgt := 55) hx hb dX3_mostRepeated_82 (by decide) ?_
        exact ih55 S N5 y3 (y4 + 1) _ _ ls h hP hD hS (lv_sub hl [1, 2, 0] rfl)
  unfold F_X3_mostRepeated at h
  refine lv_aload_n hx hb dX3_mostRepeated_0 rfl (lv_at hl 0 rfl) ?_
  refine va_get (D := D) (ci := 3) (v := .ref (n 0)) (C := RX3) (T := TX3) (N := 7) hx hb ht i_X3 hown hK hP 0 rfl rfl 0 (by decide) (ht _ wd_75) (fun _ h9 => h9) rfl dX3_mostRepeated_1 ?_
  refine lv_aload_n hx hb dX3_mostRepeated_4 rfl (lv_at hl 1 rfl) ?_
  obtain ⟨N1, e2, h⟩ := b1_ok h
  refine cl_Vv (ws' := ((wX3 f n cI cC cO S N1) ++ (wX1 b cI cC cO O))) ⟨hx, hb, hml, hown, ht⟩ (c_X1_copyFrom l D cI cC cO n b N O _ _ e2) (cwv 1 ht wd_179 wd_2 wd_283 wd_177 wd_178 (by decide +kernel) rfl rfl ⟨Nat.le_of_ble_eq_true rfl, Nat.le_of_ble_eq_true rfl⟩) 1 0 rfl rfl rfl hK hP hD hS hA hN [5, 6, 7, 8, 9, 10, 11, 12] [0, 1, 2, 3, 4] [0, 1, 2, 3, 4, 5, 6, 7, 8, 9, 10, 11, 12] (by decide) rfl rfl (by decide) (by decide) rfl (by decide) rfl hl.1 rfl (Nat.le_of_ble_eq_true rfl) dX3_mostRepeated_5 ⟨Nat.le_of_ble_eq_true rfl, Nat.le_of_ble_eq_true rfl⟩ (fun H locs hP hD hS => ?_)
  refine lv_aload_n hx hb dX3_mostRepeated_8 rfl (lv_at hl 0 rfl) ?_
  refine va_get (D := D) (ci := 3) (v := .ref (n 0)) (C := RX3) (T := TX3) (N := 7) hx hb ht i_X3 hown hK hP 0 rfl rfl 0 (by decide) (ht _ wd_75) (fun _ h9 => h9) rfl dX3_mostRepeated_9 ?_
  refine va_getN (D := D) (ci := 1) (v := .ref (n 1)) (C := RX1) (T := TX1) (N := 5) hx hb ht i_X1 hown hK hP 5 rfl rfl 0 (by decide) (va_Nw.use rfl (hN.1 _ _ _ _ _ _ wd_25)) (fun _ h9 => h9) rfl dX3_mostRepeated_12 ?_
  refine lv_iconst (v := (0 : Int32)) hx hb dX3_mostRepeated_15 (by decide) ?_
  refine cl_Sv (ws' := ((wX3 f n cI cC cO S (va_up N1 0 (fl (N1 0) 6 (0 : Int32)))) ++ (wX1 b cI cC cO O))) ⟨hx, hb, hml, hown, ht⟩ (c_J7_fill l D cI cC cO (n 1) 6 (N1 0) (0 : Int32) _ (by decide)) (cwst 2 ht wd_286 wd_9 wd_284 wd_285 (by decide +kernel) rfl rfl ⟨Nat.le_of_ble_eq_true rfl, Nat.le_of_ble_eq_true rfl⟩) hK hP hD hS hA hN [6] [0, 1, 2, 3, 4, 5, 7, 8, 9, 10, 11, 12] [0, 1, 2, 3, 4, 5, 12, 6, 7, 8, 9, 10, 11] (by decide) rfl rfl (by decide) (by decide) rfl (by decide) rfl hl.1 rfl (Nat.le_of_ble_eq_true rfl) dX3_mostRepeated_16 ⟨Nat.le_of_ble_eq_true rfl, Nat.le_of_ble_eq_true rfl⟩ (fun H locs hP hD hS => ?_)
  obtain ⟨N3, e4, h⟩ := sv_ok h
  have hP : va_P D classes ((wX3 f n cI cC cO S N3) ++ (wX1 b cI cC cO O)) H := by rw [← e4]; exact hP
  have hD : va_D A ((wX3 f n cI cC cO S N3) ++ (wX1 b cI cC cO O)) := by rw [← e4]; exact hD
  refine lv_aload_n hx hb dX3_mostRepeated_19 rfl (lv_at hl 0 rfl) ?_
  refine va_get (D := D) (ci := 3) (v := .ref (n 0)) (C := RX3) (T := TX3) (N := 7) hx hb ht i_X3 hown hK hP 0 rfl rfl 0 (by decide) (ht _ wd_75) (fun _ h9 => h9) rfl dX3_mostRepeated_20 ?_
  refine va_getN (D := D) (ci := 1) (v := .ref (n 2)) (C := RX1) (T := TX1) (N := 5) hx hb ht i_X1 hown hK hP 5 rfl rfl 1 (by decide) (va_Nw.use rfl (hN.1 _ _ _ _ _ _ wd_29)) (fun _ h9 => h9) rfl dX3_mostRepeated_23 ?_
  refine lv_iconst (v := (0 : Int32)) hx hb dX3_mostRepeated_26 (by decide) ?_
  refine cl_Sv (ws' := ((wX3 f n cI cC cO S (va_up N3 1 (fl (N3 1) 6 (0 : Int32)))) ++ (wX1 b cI cC cO O))) ⟨hx, hb, hml, hown, ht⟩ (c_J7_fill l D cI cC cO (n 2) 6 (N3 1) (0 : Int32) _ (by decide)) (cwst 2 ht wd_286 wd_9 wd_284 wd_285 (by decide +kernel) rfl rfl ⟨Nat.le_of_ble_eq_true rfl, Nat.le_of_ble_eq_true rfl⟩) hK hP hD hS hA hN [7] [0, 1, 2, 3, 4, 5, 6, 8, 9, 10, 11, 12] [0, 1, 2, 3, 4, 5, 6, 12, 7, 8, 9, 10, 11] (by decide) rfl rfl (by decide) (by decide) rfl (by decide) rfl hl.1 rfl (Nat.le_of_ble_eq_true rfl) dX3_mostRepeated_27 ⟨Nat.le_of_ble_eq_true rfl, Nat.le_of_ble_eq_true rfl⟩ (fun H locs hP hD hS => ?_)
  obtain ⟨N5, e6, h⟩ := sv_ok h
  have hP : va_P D classes ((wX3 f n cI cC cO S N5) ++ (wX1 b cI cC cO O)) H := by rw [← e6]; exact hP
  have hD : va_D A ((wX3 f n cI cC cO S N5) ++ (wX1 b cI cC cO O)) := by rw [← e6]; exact hD
  refine lv_aload_n hx hb dX3_mostRepeated_30 rfl (lv_at hl 0 rfl) ?_
  refine va_get (D := D) (ci := 3) (v := .ref (n 0)) (C := RX3) (T := TX3) (N := 7) hx hb ht i_X3 hown hK hP 0 rfl rfl 0 (by decide) (ht _ wd_75) (fun _ h9 => h9) rfl dX3_mostRepeated_31 ?_
  refine va_getN (D := D) (ci := 1) (v := .ref (n 1)) (C := RX1) (T := TX1) (N := 5) hx hb ht i_X1 hown hK hP 5 rfl rfl 0 (by decide) (va_Nw.use rfl (hN.1 _ _ _ _ _ _ wd_25)) (fun _ h9 => h9) rfl dX3_mostRepeated_34 ?_
  refine lv_iload_n hx hb dX3_mostRepeated_37 rfl (lv_at hl 2 rfl) ?_
  refine lv_ldc hx hb hown (ht _ wd_319) dX3_mostRepeated_38 ?_
  obtain ⟨i7, h⟩ := ck_ok h
  refine va_iast hx hb hK hP hD hS 6 0 rfl rfl i7 dX3_mostRepeated_40 (fun H locs hP hD hS => ?_)
  obtain ⟨N8, e9, h⟩ := sv_ok h
  have hP : va_P D classes ((wX3 f n cI cC cO S N8) ++ (wX1 b cI cC cO O)) H := by rw [← e9]; exact hP
  have hD : va_D A ((wX3 f n cI cC cO S N8) ++ (wX1 b cI cC cO O)) := by rw [← e9]; exact hD
  refine lv_aload_n hx hb dX3_mostRepeated_41 rfl (lv_at hl 0 rfl) ?_
  refine va_get (D := D) (ci := 3) (v := .ref (n 0)) (C := RX3) (T := TX3) (N := 7) hx hb ht i_X3 hown hK hP 0 rfl rfl 0 (by decide) (ht _ wd_75) (fun _ h9 => h9) rfl dX3_mostRepeated_42 ?_
  refine va_getN (D := D) (ci := 1) (v := .ref (n 2)) (C := RX1) (T := TX1) (N := 5) hx hb ht i_X1 hown hK hP 5 rfl rfl 1 (by decide) (va_Nw.use rfl (hN.1 _ _ _ _ _ _ wd_29)) (fun _ h9 => h9) rfl dX3_mostRepeated_45 ?_
  refine lv_iload_n hx hb dX3_mostRepeated_48 rfl (lv_at hl 2 rfl) ?_
  refine lv_ldc hx hb hown (ht _ wd_319) dX3_mostRepeated_49 ?_
  obtain ⟨i10, h⟩ := ck_ok h
  refine va_iast hx hb hK hP hD hS 7 0 rfl rfl i10 dX3_mostRepeated_51 (fun H locs hP hD hS => ?_)
  obtain ⟨N11, e12, h⟩ := sv_ok h
  have hP : va_P D classes ((wX3 f n cI cC cO S N11) ++ (wX1 b cI cC cO O)) H := by rw [← e12]; exact hP
  have hD : va_D A ((wX3 f n cI cC cO S N11) ++ (wX1 b cI cC cO O)) := by rw [← e12]; exact hD
  refine lv_iconst (v := (0 : Int32)) hx hb dX3_mostRepeated_52 (by decide) ?_
  refine lv_istore (lv' := [(4, .int (0 : Int32)), (0, .ref (f 0)), (1, .ref (b 0)), (2, .int x2), (3, .int x3)]) hx hb dX3_mostRepeated_53 hl (by decide) rfl (fun ls hl => ?_)
  exact w55 FU S N11 x3 (0 : Int32) _ _ ls h hP hD hS (lv_sub hl [1, 4, 0] rfl)
theorem dX3_leastTickFor_0 : decode cX3_leastTickFor 0 = .ok (.aload_n 0, 1) := by decide +kernel
theorem dX3_leastTickFor_1 : decode cX3_leastTickFor 1 = .ok (.invokevirtual 92, 3) := by decide +kernel
theorem dX3_leastTickFor_4 : decode cX3_leastTickFor 4 = .ok (.aload_n 0, 1) := by decide +kernel
theorem dX3_leastTickFor_5 : decode cX3_leastTickFor 5 = .ok (.getfield 14, 3) := by decide +kernel
theorem dX3_leastTickFor_8 : decode cX3_leastTickFor 8 = .ok (.getfield 54, 3) := by decide +kernel
theorem dX3_leastTickFor_11 : decode cX3_leastTickFor 11 = .ok (.iconst 0, 1) := by decide +kernel
theorem dX3_leastTickFor_12 : decode cX3_leastTickFor 12 = .ok (.iaload, 1) := by decide +kernel
theorem dX3_leastTickFor_13 : decode cX3_leastTickFor 13 = .ok (.istore_n 2, 1) := by decide +kernel
theorem dX3_leastTickFor_14 : decode cX3_leastTickFor 14 = .ok (.iconst 0, 1) := by decide +kernel
theorem dX3_leastTickFor_15 : decode cX3_leastTickFor 15 = .ok (.istore_n 3, 1) := by decide +kernel
theorem dX3_leastTickFor_16 : decode cX3_leastTickFor 16 = .ok (.iload_n 3, 1) := by decide +kernel
theorem dX3_leastTickFor_17 : decode cX3_leastTickFor 17 = .ok (.bipush 16, 2) := by decide +kernel
theorem dX3_leastTickFor_19 : decode cX3_leastTickFor 19 = .ok (.if_icmp .ge 24, 3) := by decide +kernel
theorem dX3_leastTickFor_22 : decode cX3_leastTickFor 22 = .ok (.iload_n 2, 1) := by decide +kernel
theorem dX3_leastTickFor_23 : decode cX3_leastTickFor 23 = .ok (.aload_n 0, 1) := by decide +kernel
theorem dX3_leastTickFor_24 : decode cX3_leastTickFor 24 = .ok (.iload_n 3, 1) := by decide +kernel
theorem dX3_leastTickFor_25 : decode cX3_leastTickFor 25 = .ok (.invokevirtual 95, 3) := by decide +kernel
theorem dX3_leastTickFor_28 : decode cX3_leastTickFor 28 = .ok (.iadd, 1) := by decide +kernel
theorem dX3_leastTickFor_29 : decode cX3_leastTickFor 29 = .ok (.istore_n 2, 1) := by decide +kernel
theorem dX3_leastTickFor_30 : decode cX3_leastTickFor 30 = .ok (.iload_n 2, 1) := by decide +kernel
theorem dX3_leastTickFor_31 : decode cX3_leastTickFor 31 = .ok (.iload_n 1, 1) := by decide +kernel
theorem dX3_leastTickFor_32 : decode cX3_leastTickFor 32 = .ok (.if_icmp .lt 5, 3) := by decide +kernel
theorem dX3_leastTickFor_35 : decode cX3_leastTickFor 35 = .ok (.iload_n 3, 1) := by decide +kernel
theorem dX3_leastTickFor_36 : decode cX3_leastTickFor 36 = .ok (.ireturn, 1) := by decide +kernel
theorem dX3_leastTickFor_37 : decode cX3_leastTickFor 37 = .ok (.iinc 3 1, 3) := by decide +kernel
theorem dX3_leastTickFor_40 : decode cX3_leastTickFor 40 = .ok (.goto (-24), 3) := by decide +kernel
theorem dX3_leastTickFor_43 : decode cX3_leastTickFor 43 = .ok (.ldc 98, 2) := by decide +kernel
theorem dX3_leastTickFor_45 : decode cX3_leastTickFor 45 = .ok (.ireturn, 1) := by decide +kernel
set_option maxHeartbeats 4000000 in
set_option maxRecDepth 100000 in
theorem c_X3_leastTickFor (l : Launch) (D : va_G) (cI cC cO : ClassId) (f : Nat → Nat) (n : Nat → Nat) (S : Mm) (N : Mm) (x1 : Int32) (res : Int32 × Mm) (sz : Nat) (h : F_X3_leastTickFor S N x1 = some res) : Met l yX3_leastTickFor (Cond.code yX3_leastTickFor cX3_leastTickFor 4 (Option.some Jvm.ClassFile.FieldType.int) :: lw_g) ({ frames := 4, cells := 0, slots := 0, locals := 96 } : Room) (va_Pc [.ref (f 0), .int x1] (pS D cI cC cO sz (wX3 f n cI cC cO S N))) (QI D cI cC cO (va_A (wX3 f n cI cC cO S N) sz) (wX3 f n cI cC cO res.2 N) res.1) 0 0 (va_A (wX3 f n cI cC cO S N) sz) := by
  refine Met.ofW (cc := cX3_leastTickFor) (maxL := 4) (ret := (Option.some Jvm.ClassFile.FieldType.int)) (by decide) rfl ?_
  intro p e s m args below meth c s₁ B hml hv
  obtain ⟨rfl, rfl, hP, hK, hD0, hN⟩ := hv
  have hx := B.exec
  have hb := B.bytes
  have hr := B.returns
  have ht : ∀ w ∈ lw_g, w.before ([.ref (f 0), .int x1] : List Value).toArray s = true := fun w hw => atoms_spec (ws := Cond.code yX3_leastTickFor cX3_leastTickFor 4 (Option.some Jvm.ClassFile.FieldType.int) :: lw_g) B.pre w (List.mem_cons_of_mem _ hw)
  have hown : s.vm.findClass RX3 = some m.cls := findClass_of_methodNamed B.named
  have hlocks := B.notSynchronized
  have hD := hD0.self (sz := s.heap.size)
  generalize hAe : va_A (wX3 f n cI cC cO S N) s.heap.size = A at hD ⊢
  have hA : ∀ q : Nat, s.heap.size ≤ q → A q := fun q hq => by rw [← hAe]; exact Or.inr hq
  have hS : va_S A s.heap s.heap [] := va_S.rf
  have hl := lv_entry ([.ref (f 0), .int x1]) (n := 4) (Nat.le_of_ble_eq_true rfl)
  rw [lg_entry_eq]
  generalize (lg_sl ([.ref (f 0), .int x1]) ++ List.replicate (4 - (lg_sl ([.ref (f 0), .int x1])).length) Slot.unset).toArray = ls at hl ⊢
  have hl : lv_has ls 4 [(0, .ref (f 0)), (1, .int x1)] := hl
  have w16 : ∀ (n16 : Nat) (S : Mm) (y1 y2 y3 : Int32) (H : Heap) (locs : List Loc) (ls : Array Slot), F_X3_leastTickFor_16 n16 S N y1 y2 y3 = some res → va_P D classes (wX3 f n cI cC cO S N) H → va_D A (wX3 f n cI cC cO S N) → va_S A s.heap H locs → lv_has ls 4 [(0, .ref (f 0)), (1, .int y1), (2, .int y2), (3, .int y3)] → W p l e ({ frames := 4, cells := 0, slots := 0, locals := 96 } : Room) s m ([.ref (f 0), .int x1] : List Value).toArray below meth c H locs 0 0 (MQ below (QI D cI cC cO A (wX3 f n cI cC cO res.2 N) res.1) ([.ref (f 0), .int x1] : List Value).toArray s 0 0 A) (F0 m 16 ls []) := by
    intro n16
    induction n16 with
    | zero => intro S y1 y2 y3 H locs ls h hP hD hS hl; exact absurd (show (none : Option (Int32 × Mm)) = some res from h) (by simp)
    | succ n16 ih16 =>
      intro S y1 y2 y3 H locs ls h hP hD hS hl
      have h : F_X3_leastTickForB_16 (F_X3_leastTickFor_16 n16) S N y1 y2 y3 = some res := h
      unfold F_X3_leastTickForB_16 at h
      refine lv_iload_n hx hb dX3_leastTickFor_16 rfl (lv_at hl 3 rfl) ?_
      refine lv_bipush (v := (16 : Int32)) hx hb dX3_leastTickFor_17 (by decide) ?_
      refine lv_icmp_ge (tgt := 43) hx hb dX3_leastTickFor_19 (by decide) (fun c1 => ?_) (fun c1 => ?_)
      · replace h := fp c1 h
        refine lv_ldc hx hb hown (ht _ wd_340) dX3_leastTickFor_43 ?_
        cases h
        exact rt_i hx hb hr hlocks hS hP hK hD dX3_leastTickFor_45
      · replace h := fn c1 h
        refine lv_iload_n hx hb dX3_leastTickFor_22 rfl (lv_at hl 2 rfl) ?_
        refine lv_aload_n hx hb dX3_leastTickFor_23 rfl (lv_at hl 0 rfl) ?_
        refine lv_iload_n hx hb dX3_leastTickFor_24 rfl (lv_at hl 3 rfl) ?_
        obtain ⟨u2, S3, e4, h⟩ := b2_ok h
        refine cl_Vi (ws' := (wX3 f n cI cC cO S3 N)) ⟨hx, hb, hml, hown, ht⟩ (c_X3_moreBy l D cI cC cO f n S N y3 _ _ e4) (cwv 1 ht wd_318 wd_4 wd_315 wd_317 ws_4 (by decide +kernel) rfl rfl ⟨Nat.le_of_ble_eq_true rfl, Nat.le_of_ble_eq_true rfl⟩) 3 0 rfl rfl rfl hK hP hD hS hA hN [0, 1, 2, 3, 4, 5, 6, 7, 8] [] [0, 1, 2, 3, 4, 5, 6, 7, 8] (by decide) rfl rfl (by decide) (by decide) rfl (by decide) rfl hl.1 rfl (Nat.le_of_ble_eq_true rfl) dX3_leastTickFor_25 ⟨Nat.le_of_ble_eq_true rfl, Nat.le_of_ble_eq_true rfl⟩ (fun H locs hP hD hS => ?_)
        refine lv_iadd hx hb dX3_leastTickFor_28 ?_
        refine lv_istore_n (lv' := [(2, .int (y2 + u2)), (0, .ref (f 0)), (1, .int y1), (3, .int y3)]) hx hb dX3_leastTickFor_29 rfl hl (by decide) rfl (fun ls hl => ?_)
        refine lv_iload_n hx hb dX3_leastTickFor_30 rfl (lv_at hl 0 rfl) ?_
        refine lv_iload_n hx hb dX3_leastTickFor_31 rfl (lv_at hl 2 rfl) ?_
        refine lv_icmp_lt (tgt := 37) hx hb dX3_leastTickFor_32 (by decide) (fun c5 => ?_) (fun c5 => ?_)
        · replace h := fp c5 h
          refine lv_iinc (v := (y3 + 1)) (lv' := [(3, .int (y3 + 1)), (2, .int (y2 + u2)), (0, .ref (f 0)), (1, .int y1)]) hx hb dX3_leastTickFor_37 hl (k := 3) rfl rfl (by decide) rfl (fun ls hl => ?_)
          refine lv_goto (tgt := 16) hx hb dX3_leastTickFor_40 (by decide) ?_
          exact ih16 S3 y1 (y2 + u2) (y3 + 1) _ _ ls h hP hD hS (lv_sub hl [2, 3, 1, 0] rfl)
        · replace h := fn c5 h
          refine lv_iload_n hx hb dX3_leastTickFor_35 rfl (lv_at hl 3 rfl) ?_
          cases h
          exact rt_i hx hb hr hlocks hS hP hK hD dX3_leastTickFor_36
  unfold F_X3_leastTickFor at h
  refine lv_aload_n hx hb dX3_leastTickFor_0 rfl (lv_at hl 0 rfl) ?_
  obtain ⟨S1, e2, h⟩ := b1_ok h
  refine cl_Vv (ws' := (wX3 f n cI cC cO S1 N)) ⟨hx, hb, hml, hown, ht⟩ (c_X3_begin l D cI cC cO f n S N _ _ e2) (cwv 0 ht wd_294 wd_4 wd_291 wd_293 ws_2 (by decide +kernel) rfl rfl ⟨Nat.le_of_ble_eq_true rfl, Nat.le_of_ble_eq_true rfl⟩) 3 0 rfl rfl rfl hK hP hD hS hA hN [0, 1, 2, 3, 4, 5, 6, 7, 8] [] [0, 1, 2, 3, 4, 5, 6, 7, 8] (by decide) rfl rfl (by decide) (by decide) rfl (by decide) rfl hl.1 rfl (Nat.le_of_ble_eq_true rfl) dX3_leastTickFor_1 ⟨Nat.le_of_ble_eq_true rfl, Nat.le_of_ble_eq_true rfl⟩ (fun H locs hP hD hS => ?_)
  refine lv_aload_n hx hb dX3_leastTickFor_4 rfl (lv_at hl 0 rfl) ?_
  refine va_get (D := D) (ci := 3) (v := .ref (n 0)) (C := RX3) (T := TX3) (N := 7) hx hb ht i_X3 hown hK hP 0 rfl rfl 0 (by decide) (ht _ wd_75) (fun _ h9 => h9) rfl dX3_leastTickFor_5 ?_
  refine va_getN (D := D) (ci := 1) (v := .ref (n 1)) (C := RX1) (T := TX1) (N := 5) hx hb ht i_X1 hown hK hP 5 rfl rfl 0 (by decide) (va_Nw.use rfl (hN.1 _ _ _ _ _ _ wd_25)) (fun _ h9 => h9) rfl dX3_leastTickFor_8 ?_
  refine lv_iconst (v := (0 : Int32)) hx hb dX3_leastTickFor_11 (by decide) ?_
  obtain ⟨i3, h⟩ := ck_ok h
  refine va_iald hx hb hK hP 6 0 rfl rfl i3 dX3_leastTickFor_12 ?_
  refine lv_istore_n (lv' := [(2, .int (N 0 (0 : Int32).toNatClampNeg)), (0, .ref (f 0)), (1, .int x1)]) hx hb dX3_leastTickFor_13 rfl hl (by decide) rfl (fun ls hl => ?_)
  refine lv_iconst (v := (0 : Int32)) hx hb dX3_leastTickFor_14 (by decide) ?_
  refine lv_istore_n (lv' := [(3, .int (0 : Int32)), (2, .int (N 0 (0 : Int32).toNatClampNeg)), (0, .ref (f 0)), (1, .int x1)]) hx hb dX3_leastTickFor_15 rfl hl (by decide) rfl (fun ls hl => ?_)
  exact w16 FU S1 x1 (N 0 (0 : Int32).toNatClampNeg) (0 : Int32) _ _ ls h hP hD hS (lv_sub hl [2, 3, 1, 0] rfl)
theorem dX3_leastTick_0 : decode cX3_leastTick 0 = .ok (.aload_n 0, 1) := by decide +kernel
theorem dX3_leastTick_1 : decode cX3_leastTick 1 = .ok (.getfield 14, 3) := by decide +kernel
theorem dX3_leastTick_4 : decode cX3_leastTick 4 = .ok (.aload_n 1, 1) := by decide +kernel
theorem dX3_leastTick_5 : decode cX3_leastTick 5 = .ok (.invokevirtual 38, 3) := by decide +kernel
theorem dX3_leastTick_8 : decode cX3_leastTick 8 = .ok (.aload_n 0, 1) := by decide +kernel
theorem dX3_leastTick_9 : decode cX3_leastTick 9 = .ok (.iload_n 2, 1) := by decide +kernel
theorem dX3_leastTick_10 : decode cX3_leastTick 10 = .ok (.invokevirtual 73, 3) := by decide +kernel
theorem dX3_leastTick_13 : decode cX3_leastTick 13 = .ok (.ireturn, 1) := by decide +kernel
set_option maxHeartbeats 4000000 in
set_option maxRecDepth 100000 in
theorem c_X3_leastTick (l : Launch) (D : va_G) (cI cC cO : ClassId) (f : Nat → Nat) (n : Nat → Nat) (b : Nat → Nat) (S : Mm) (N : Mm) (O : Mm) (x2 : Int32) (res : Int32 × Mm × Mm) (sz : Nat) (h : F_X3_leastTick S N O x2 = some res) : Met l yX3_leastTick (Cond.code yX3_leastTick cX3_leastTick 3 (Option.some Jvm.ClassFile.FieldType.int) :: lw_g) ({ frames := 5, cells := 0, slots := 0, locals := 119 } : Room) (va_Pc [.ref (f 0), .ref (b 0), .int x2] (pS D cI cC cO sz ((wX3 f n cI cC cO S N) ++ (wX1 b cI cC cO O)))) (QI D cI cC cO (va_A ((wX3 f n cI cC cO S N) ++ (wX1 b cI cC cO O)) sz) ((wX3 f n cI cC cO res.2.1 res.2.2) ++ (wX1 b cI cC cO O)) res.1) 0 0 (va_A ((wX3 f n cI cC cO S N) ++ (wX1 b cI cC cO O)) sz) := by
  refine Met.ofW (cc := cX3_leastTick) (maxL := 3) (ret := (Option.some Jvm.ClassFile.FieldType.int)) (by decide) rfl ?_
  intro p e s m args below meth c s₁ B hml hv
  obtain ⟨rfl, rfl, hP, hK, hD0, hN⟩ := hv
  have hx := B.exec
  have hb := B.bytes
  have hr := B.returns
  have ht : ∀ w ∈ lw_g, w.before ([.ref (f 0), .ref (b 0), .int x2] : List Value).toArray s = true := fun w hw => atoms_spec (ws := Cond.code yX3_leastTick cX3_leastTick 3 (Option.some Jvm.ClassFile.FieldType.int) :: lw_g) B.pre w (List.mem_cons_of_mem _ hw)
  have hown : s.vm.findClass RX3 = some m.cls := findClass_of_methodNamed B.named
  have hlocks := B.notSynchronized
  have hD := hD0.self (sz := s.heap.size)
  generalize hAe : va_A ((wX3 f n cI cC cO S N) ++ (wX1 b cI cC cO O)) s.heap.size = A at hD ⊢
  have hA : ∀ q : Nat, s.heap.size ≤ q → A q := fun q hq => by rw [← hAe]; exact Or.inr hq
  have hS : va_S A s.heap s.heap [] := va_S.rf
  have hl := lv_entry ([.ref (f 0), .ref (b 0), .int x2]) (n := 3) (Nat.le_of_ble_eq_true rfl)
  rw [lg_entry_eq]
  generalize (lg_sl ([.ref (f 0), .ref (b 0), .int x2]) ++ List.replicate (3 - (lg_sl ([.ref (f 0), .ref (b 0), .int x2])).length) Slot.unset).toArray = ls at hl ⊢
  have hl : lv_has ls 3 [(0, .ref (f 0)), (1, .ref (b 0)), (2, .int x2)] := hl
  unfold F_X3_leastTick at h
  refine lv_aload_n hx hb dX3_leastTick_0 rfl (lv_at hl 0 rfl) ?_
  refine va_get (D := D) (ci := 3) (v := .ref (n 0)) (C := RX3) (T := TX3) (N := 7) hx hb ht i_X3 hown hK hP 0 rfl rfl 0 (by decide) (ht _ wd_75) (fun _ h9 => h9) rfl dX3_leastTick_1 ?_
  refine lv_aload_n hx hb dX3_leastTick_4 rfl (lv_at hl 1 rfl) ?_
  obtain ⟨N1, e2, h⟩ := b1_ok h
  refine cl_Vv (ws' := ((wX3 f n cI cC cO S N1) ++ (wX1 b cI cC cO O))) ⟨hx, hb, hml, hown, ht⟩ (c_X1_copyFrom l D cI cC cO n b N O _ _ e2) (cwv 1 ht wd_179 wd_2 wd_283 wd_177 wd_178 (by decide +kernel) rfl rfl ⟨Nat.le_of_ble_eq_true rfl, Nat.le_of_ble_eq_true rfl⟩) 1 0 rfl rfl rfl hK hP hD hS hA hN [5, 6, 7, 8, 9, 10, 11, 12] [0, 1, 2, 3, 4] [0, 1, 2, 3, 4, 5, 6, 7, 8, 9, 10, 11, 12] (by decide) rfl rfl (by decide) (by decide) rfl (by decide) rfl hl.1 rfl (Nat.le_of_ble_eq_true rfl) dX3_leastTick_5 ⟨Nat.le_of_ble_eq_true rfl, Nat.le_of_ble_eq_true rfl⟩ (fun H locs hP hD hS => ?_)
  refine lv_aload_n hx hb dX3_leastTick_8 rfl (lv_at hl 0 rfl) ?_
  refine lv_iload_n hx hb dX3_leastTick_9 rfl (lv_at hl 2 rfl) ?_
  obtain ⟨u3, S4, e5, h⟩ := b2_ok h
  refine cl_Vi (ws' := ((wX3 f n cI cC cO S4 N1) ++ (wX1 b cI cC cO O))) ⟨hx, hb, hml, hown, ht⟩ (c_X3_leastTickFor l D cI cC cO f n S N1 x2 _ _ e5) (cwv 1 ht wd_290 wd_4 wd_287 wd_289 ws_1 (by decide +kernel) rfl rfl ⟨Nat.le_of_ble_eq_true rfl, Nat.le_of_ble_eq_true rfl⟩) 3 0 rfl rfl rfl hK hP hD hS hA hN [0, 1, 2, 3, 4, 5, 6, 7, 8] [9, 10, 11, 12] [4, 5, 6, 7, 8, 9, 10, 11, 12, 0, 1, 2, 3] (by decide) rfl rfl (by decide) (by decide) rfl (by decide) rfl hl.1 rfl (Nat.le_of_ble_eq_true rfl) dX3_leastTick_10 ⟨Nat.le_of_ble_eq_true rfl, Nat.le_of_ble_eq_true rfl⟩ (fun H locs hP hD hS => ?_)
  cases h
  exact rt_i hx hb hr hlocks hS hP hK hD dX3_leastTick_13
theorem dX3_leastTickAlone_0 : decode cX3_leastTickAlone 0 = .ok (.aload_n 0, 1) := by decide +kernel
theorem dX3_leastTickAlone_1 : decode cX3_leastTickAlone 1 = .ok (.getfield 14, 3) := by decide +kernel
theorem dX3_leastTickAlone_4 : decode cX3_leastTickAlone 4 = .ok (.aload_n 1, 1) := by decide +kernel
theorem dX3_leastTickAlone_5 : decode cX3_leastTickAlone 5 = .ok (.invokevirtual 38, 3) := by decide +kernel
theorem dX3_leastTickAlone_8 : decode cX3_leastTickAlone 8 = .ok (.aload_n 0, 1) := by decide +kernel
theorem dX3_leastTickAlone_9 : decode cX3_leastTickAlone 9 = .ok (.getfield 14, 3) := by decide +kernel
theorem dX3_leastTickAlone_12 : decode cX3_leastTickAlone 12 = .ok (.getfield 54, 3) := by decide +kernel
theorem dX3_leastTickAlone_15 : decode cX3_leastTickAlone 15 = .ok (.iconst 0, 1) := by decide +kernel
theorem dX3_leastTickAlone_16 : decode cX3_leastTickAlone 16 = .ok (.invokestatic 57, 3) := by decide +kernel
theorem dX3_leastTickAlone_19 : decode cX3_leastTickAlone 19 = .ok (.aload_n 0, 1) := by decide +kernel
theorem dX3_leastTickAlone_20 : decode cX3_leastTickAlone 20 = .ok (.getfield 14, 3) := by decide +kernel
theorem dX3_leastTickAlone_23 : decode cX3_leastTickAlone 23 = .ok (.getfield 54, 3) := by decide +kernel
theorem dX3_leastTickAlone_26 : decode cX3_leastTickAlone 26 = .ok (.iload_n 2, 1) := by decide +kernel
theorem dX3_leastTickAlone_27 : decode cX3_leastTickAlone 27 = .ok (.iconst 1, 1) := by decide +kernel
theorem dX3_leastTickAlone_28 : decode cX3_leastTickAlone 28 = .ok (.iastore, 1) := by decide +kernel
theorem dX3_leastTickAlone_29 : decode cX3_leastTickAlone 29 = .ok (.aload_n 0, 1) := by decide +kernel
theorem dX3_leastTickAlone_30 : decode cX3_leastTickAlone 30 = .ok (.iconst 1, 1) := by decide +kernel
theorem dX3_leastTickAlone_31 : decode cX3_leastTickAlone 31 = .ok (.invokevirtual 73, 3) := by decide +kernel
theorem dX3_leastTickAlone_34 : decode cX3_leastTickAlone 34 = .ok (.ireturn, 1) := by decide +kernel
set_option maxHeartbeats 4000000 in
set_option maxRecDepth 100000 in
theorem c_X3_leastTickAlone (l : Launch) (D : va_G) (cI cC cO : ClassId) (f : Nat → Nat) (n : Nat → Nat) (b : Nat → Nat) (S : Mm) (N : Mm) (O : Mm) (x2 : Int32) (res : Int32 × Mm × Mm) (sz : Nat) (h : F_X3_leastTickAlone S N O x2 = some res) : Met l yX3_leastTickAlone (Cond.code yX3_leastTickAlone cX3_leastTickAlone 3 (Option.some Jvm.ClassFile.FieldType.int) :: lw_g) ({ frames := 5, cells := 0, slots := 0, locals := 119 } : Room) (va_Pc [.ref (f 0), .ref (b 0), .int x2] (pS D cI cC cO sz ((wX3 f n cI cC cO S N) ++ (wX1 b cI cC cO O)))) (QI D cI cC cO (va_A ((wX3 f n cI cC cO S N) ++ (wX1 b cI cC cO O)) sz) ((wX3 f n cI cC cO res.2.1 res.2.2) ++ (wX1 b cI cC cO O)) res.1) 0 0 (va_A ((wX3 f n cI cC cO S N) ++ (wX1 b cI cC cO O)) sz) := by
  refine Met.ofW (cc := cX3_leastTickAlone) (maxL := 3) (ret := (Option.some Jvm.ClassFile.FieldType.int)) (by decide) rfl ?_
  intro p e s m args below meth c s₁ B hml hv
  obtain ⟨rfl, rfl, hP, hK, hD0, hN⟩ := hv
  have hx := B.exec
  have hb := B.bytes
  have hr := B.returns
  have ht : ∀ w ∈ lw_g, w.before ([.ref (f 0), .ref (b 0), .int x2] : List Value).toArray s = true := fun w hw => atoms_spec (ws := Cond.code yX3_leastTickAlone cX3_leastTickAlone 3 (Option.some Jvm.ClassFile.FieldType.int) :: lw_g) B.pre w (List.mem_cons_of_mem _ hw)
  have hown : s.vm.findClass RX3 = some m.cls := findClass_of_methodNamed B.named
  have hlocks := B.notSynchronized
  have hD := hD0.self (sz := s.heap.size)
  generalize hAe : va_A ((wX3 f n cI cC cO S N) ++ (wX1 b cI cC cO O)) s.heap.size = A at hD ⊢
  have hA : ∀ q : Nat, s.heap.size ≤ q → A q := fun q hq => by rw [← hAe]; exact Or.inr hq
  have hS : va_S A s.heap s.heap [] := va_S.rf
  have hl := lv_entry ([.ref (f 0), .ref (b 0), .int x2]) (n := 3) (Nat.le_of_ble_eq_true rfl)
  rw [lg_entry_eq]
  generalize (lg_sl ([.ref (f 0), .ref (b 0), .int x2]) ++ List.replicate (3 - (lg_sl ([.ref (f 0), .ref (b 0), .int x2])).length) Slot.unset).toArray = ls at hl ⊢
  have hl : lv_has ls 3 [(0, .ref (f 0)), (1, .ref (b 0)), (2, .int x2)] := hl
  unfold F_X3_leastTickAlone at h
  refine lv_aload_n hx hb dX3_leastTickAlone_0 rfl (lv_at hl 0 rfl) ?_
  refine va_get (D := D) (ci := 3) (v := .ref (n 0)) (C := RX3) (T := TX3) (N := 7) hx hb ht i_X3 hown hK hP 0 rfl rfl 0 (by decide) (ht _ wd_75) (fun _ h9 => h9) rfl dX3_leastTickAlone_1 ?_
  refine lv_aload_n hx hb dX3_leastTickAlone_4 rfl (lv_at hl 1 rfl) ?_
  obtain ⟨N1, e2, h⟩ := b1_ok h
  refine cl_Vv (ws' := ((wX3 f n cI cC cO S N1) ++ (wX1 b cI cC cO O))) ⟨hx, hb, hml, hown, ht⟩ (c_X1_copyFrom l D cI cC cO n b N O _ _ e2) (cwv 1 ht wd_179 wd_2 wd_283 wd_177 wd_178 (by decide +kernel) rfl rfl ⟨Nat.le_of_ble_eq_true rfl, Nat.le_of_ble_eq_true rfl⟩) 1 0 rfl rfl rfl hK hP hD hS hA hN [5, 6, 7, 8, 9, 10, 11, 12] [0, 1, 2, 3, 4] [0, 1, 2, 3, 4, 5, 6, 7, 8, 9, 10, 11, 12] (by decide) rfl rfl (by decide) (by decide) rfl (by decide) rfl hl.1 rfl (Nat.le_of_ble_eq_true rfl) dX3_leastTickAlone_5 ⟨Nat.le_of_ble_eq_true rfl, Nat.le_of_ble_eq_true rfl⟩ (fun H locs hP hD hS => ?_)
  refine lv_aload_n hx hb dX3_leastTickAlone_8 rfl (lv_at hl 0 rfl) ?_
  refine va_get (D := D) (ci := 3) (v := .ref (n 0)) (C := RX3) (T := TX3) (N := 7) hx hb ht i_X3 hown hK hP 0 rfl rfl 0 (by decide) (ht _ wd_75) (fun _ h9 => h9) rfl dX3_leastTickAlone_9 ?_
  refine va_getN (D := D) (ci := 1) (v := .ref (n 1)) (C := RX1) (T := TX1) (N := 5) hx hb ht i_X1 hown hK hP 5 rfl rfl 0 (by decide) (va_Nw.use rfl (hN.1 _ _ _ _ _ _ wd_25)) (fun _ h9 => h9) rfl dX3_leastTickAlone_12 ?_
  refine lv_iconst (v := (0 : Int32)) hx hb dX3_leastTickAlone_15 (by decide) ?_
  refine cl_Sv (ws' := ((wX3 f n cI cC cO S (va_up N1 0 (fl (N1 0) 6 (0 : Int32)))) ++ (wX1 b cI cC cO O))) ⟨hx, hb, hml, hown, ht⟩ (c_J7_fill l D cI cC cO (n 1) 6 (N1 0) (0 : Int32) _ (by decide)) (cwst 2 ht wd_286 wd_9 wd_284 wd_285 (by decide +kernel) rfl rfl ⟨Nat.le_of_ble_eq_true rfl, Nat.le_of_ble_eq_true rfl⟩) hK hP hD hS hA hN [6] [0, 1, 2, 3, 4, 5, 7, 8, 9, 10, 11, 12] [0, 1, 2, 3, 4, 5, 12, 6, 7, 8, 9, 10, 11] (by decide) rfl rfl (by decide) (by decide) rfl (by decide) rfl hl.1 rfl (Nat.le_of_ble_eq_true rfl) dX3_leastTickAlone_16 ⟨Nat.le_of_ble_eq_true rfl, Nat.le_of_ble_eq_true rfl⟩ (fun H locs hP hD hS => ?_)
  obtain ⟨N3, e4, h⟩ := sv_ok h
  have hP : va_P D classes ((wX3 f n cI cC cO S N3) ++ (wX1 b cI cC cO O)) H := by rw [← e4]; exact hP
  have hD : va_D A ((wX3 f n cI cC cO S N3) ++ (wX1 b cI cC cO O)) := by rw [← e4]; exact hD
  refine lv_aload_n hx hb dX3_leastTickAlone_19 rfl (lv_at hl 0 rfl) ?_
  refine va_get (D := D) (ci := 3) (v := .ref (n 0)) (C := RX3) (T := TX3) (N := 7) hx hb ht i_X3 hown hK hP 0 rfl rfl 0 (by decide) (ht _ wd_75) (fun _ h9 => h9) rfl dX3_leastTickAlone_20 ?_
  refine va_getN (D := D) (ci := 1) (v := .ref (n 1)) (C := RX1) (T := TX1) (N := 5) hx hb ht i_X1 hown hK hP 5 rfl rfl 0 (by decide) (va_Nw.use rfl (hN.1 _ _ _ _ _ _ wd_25)) (fun _ h9 => h9) rfl dX3_leastTickAlone_23 ?_
  refine lv_iload_n hx hb dX3_leastTickAlone_26 rfl (lv_at hl 2 rfl) ?_
  refine lv_iconst (v := (1 : Int32)) hx hb dX3_leastTickAlone_27 (by decide) ?_
  obtain ⟨i5, h⟩ := ck_ok h
  refine va_iast hx hb hK hP hD hS 6 0 rfl rfl i5 dX3_leastTickAlone_28 (fun H locs hP hD hS => ?_)
  obtain ⟨N6, e7, h⟩ := sv_ok h
  have hP : va_P D classes ((wX3 f n cI cC cO S N6) ++ (wX1 b cI cC cO O)) H := by rw [← e7]; exact hP
  have hD : va_D A ((wX3 f n cI cC cO S N6) ++ (wX1 b cI cC cO O)) := by rw [← e7]; exact hD
  refine lv_aload_n hx hb dX3_leastTickAlone_29 rfl (lv_at hl 0 rfl) ?_
  refine lv_iconst (v := (1 : Int32)) hx hb dX3_leastTickAlone_30 (by decide) ?_
  obtain ⟨u8, S9, e10, h⟩ := b2_ok h
  refine cl_Vi (ws' := ((wX3 f n cI cC cO S9 N6) ++ (wX1 b cI cC cO O))) ⟨hx, hb, hml, hown, ht⟩ (c_X3_leastTickFor l D cI cC cO f n S N6 (1 : Int32) _ _ e10) (cwv 1 ht wd_290 wd_4 wd_287 wd_289 ws_1 (by decide +kernel) rfl rfl ⟨Nat.le_of_ble_eq_true rfl, Nat.le_of_ble_eq_true rfl⟩) 3 0 rfl rfl rfl hK hP hD hS hA hN [0, 1, 2, 3, 4, 5, 6, 7, 8] [9, 10, 11, 12] [4, 5, 6, 7, 8, 9, 10, 11, 12, 0, 1, 2, 3] (by decide) rfl rfl (by decide) (by decide) rfl (by decide) rfl hl.1 rfl (Nat.le_of_ble_eq_true rfl) dX3_leastTickAlone_31 ⟨Nat.le_of_ble_eq_true rfl, Nat.le_of_ble_eq_true rfl⟩ (fun H locs hP hD hS => ?_)
  cases h
  exact rt_i hx hb hr hlocks hS hP hK hD dX3_leastTickAlone_34
theorem dX3_usedPipes_0 : decode cX3_usedPipes 0 = .ok (.iconst 0, 1) := by decide +kernel
theorem dX3_usedPipes_1 : decode cX3_usedPipes 1 = .ok (.istore_n 1, 1) := by decide +kernel
theorem dX3_usedPipes_2 : decode cX3_usedPipes 2 = .ok (.iconst 0, 1) := by decide +kernel
theorem dX3_usedPipes_3 : decode cX3_usedPipes 3 = .ok (.istore_n 2, 1) := by decide +kernel
theorem dX3_usedPipes_4 : decode cX3_usedPipes 4 = .ok (.iload_n 2, 1) := by decide +kernel
theorem dX3_usedPipes_5 : decode cX3_usedPipes 5 = .ok (.aload_n 0, 1) := by decide +kernel
theorem dX3_usedPipes_6 : decode cX3_usedPipes 6 = .ok (.getfield 14, 3) := by decide +kernel
theorem dX3_usedPipes_9 : decode cX3_usedPipes 9 = .ok (.getfield 67, 3) := by decide +kernel
theorem dX3_usedPipes_12 : decode cX3_usedPipes 12 = .ok (.if_icmp .ge 45, 3) := by decide +kernel
theorem dX3_usedPipes_15 : decode cX3_usedPipes 15 = .ok (.iconst 0, 1) := by decide +kernel
theorem dX3_usedPipes_16 : decode cX3_usedPipes 16 = .ok (.istore_n 3, 1) := by decide +kernel
theorem dX3_usedPipes_17 : decode cX3_usedPipes 17 = .ok (.iload_n 3, 1) := by decide +kernel
theorem dX3_usedPipes_18 : decode cX3_usedPipes 18 = .ok (.bipush 16, 2) := by decide +kernel
theorem dX3_usedPipes_20 : decode cX3_usedPipes 20 = .ok (.if_icmp .ge 31, 3) := by decide +kernel
theorem dX3_usedPipes_23 : decode cX3_usedPipes 23 = .ok (.aload_n 0, 1) := by decide +kernel
theorem dX3_usedPipes_24 : decode cX3_usedPipes 24 = .ok (.getfield 18, 3) := by decide +kernel
theorem dX3_usedPipes_27 : decode cX3_usedPipes 27 = .ok (.iload_n 2, 1) := by decide +kernel
theorem dX3_usedPipes_28 : decode cX3_usedPipes 28 = .ok (.iload_n 3, 1) := by decide +kernel
theorem dX3_usedPipes_29 : decode cX3_usedPipes 29 = .ok (.invokestatic 76, 3) := by decide +kernel
theorem dX3_usedPipes_32 : decode cX3_usedPipes 32 = .ok (.invokestatic 79, 3) := by decide +kernel
theorem dX3_usedPipes_35 : decode cX3_usedPipes 35 = .ok (.iaload, 1) := by decide +kernel
theorem dX3_usedPipes_36 : decode cX3_usedPipes 36 = .ok (.ifCond .le 9, 3) := by decide +kernel
theorem dX3_usedPipes_39 : decode cX3_usedPipes 39 = .ok (.iload_n 1, 1) := by decide +kernel
theorem dX3_usedPipes_40 : decode cX3_usedPipes 40 = .ok (.iconst 1, 1) := by decide +kernel
theorem dX3_usedPipes_41 : decode cX3_usedPipes 41 = .ok (.iload_n 2, 1) := by decide +kernel
theorem dX3_usedPipes_42 : decode cX3_usedPipes 42 = .ok (.ishl, 1) := by decide +kernel
theorem dX3_usedPipes_43 : decode cX3_usedPipes 43 = .ok (.ior, 1) := by decide +kernel
theorem dX3_usedPipes_44 : decode cX3_usedPipes 44 = .ok (.istore_n 1, 1) := by decide +kernel
theorem dX3_usedPipes_45 : decode cX3_usedPipes 45 = .ok (.iinc 3 1, 3) := by decide +kernel
theorem dX3_usedPipes_48 : decode cX3_usedPipes 48 = .ok (.goto (-31), 3) := by decide +kernel
theorem dX3_usedPipes_51 : decode cX3_usedPipes 51 = .ok (.iinc 2 1, 3) := by decide +kernel
theorem dX3_usedPipes_54 : decode cX3_usedPipes 54 = .ok (.goto (-50), 3) := by decide +kernel
theorem dX3_usedPipes_57 : decode cX3_usedPipes 57 = .ok (.iload_n 1, 1) := by decide +kernel
theorem dX3_usedPipes_58 : decode cX3_usedPipes 58 = .ok (.ireturn, 1) := by decide +kernel
set_option maxHeartbeats 4000000 in
set_option maxRecDepth 100000 in
theorem c_X3_usedPipes (l : Launch) (D : va_G) (cI cC cO : ClassId) (f : Nat → Nat) (n : Nat → Nat) (S : Mm) (N : Mm) (res : Int32) (sz : Nat) (h : F_X3_usedPipes S N = some res) : Met l yX3_usedPipes (Cond.code yX3_usedPipes cX3_usedPipes 4 (Option.some Jvm.ClassFile.FieldType.int) :: lw_g) ({ frames := 1, cells := 0, slots := 0, locals := 21 } : Room) (va_Pc [.ref (f 0)] (pS D cI cC cO sz (wX3 f n cI cC cO S N))) (QI D cI cC cO (va_A (wX3 f n cI cC cO S N) sz) (wX3 f n cI cC cO S N) res) 0 0 (va_A (wX3 f n cI cC cO S N) sz) := by
  refine Met.ofW (cc := cX3_usedPipes) (maxL := 4) (ret := (Option.some Jvm.ClassFile.FieldType.int)) (by decide) rfl ?_
  intro p e s m args below meth c s₁ B hml hv
  obtain ⟨rfl, rfl, hP, hK, hD0, hN⟩ := hv
  have hx := B.exec
  have hb := B.bytes
  have hr := B.returns
  have ht : ∀ w ∈ lw_g, w.before ([.ref (f 0)] : List Value).toArray s = true := fun w hw => atoms_spec (ws := Cond.code yX3_usedPipes cX3_usedPipes 4 (Option.some Jvm.ClassFile.FieldType.int) :: lw_g) B.pre w (List.mem_cons_of_mem _ hw)
  have hown : s.vm.findClass RX3 = some m.cls := findClass_of_methodNamed B.named
  have hlocks := B.notSynchronized
  have hD := hD0.self (sz := s.heap.size)
  generalize hAe : va_A (wX3 f n cI cC cO S N) s.heap.size = A at hD ⊢
  have hA : ∀ q : Nat, s.heap.size ≤ q → A q := fun q hq => by rw [← hAe]; exact Or.inr hq
  have hS : va_S A s.heap s.heap [] := va_S.rf
  have hl := lv_entry ([.ref (f 0)]) (n := 4) (Nat.le_of_ble_eq_true rfl)
  rw [lg_entry_eq]
  generalize (lg_sl ([.ref (f 0)]) ++ List.replicate (4 - (lg_sl ([.ref (f 0)])).length) Slot.unset).toArray = ls at hl ⊢
  have hl : lv_has ls 4 [(0, .ref (f 0))] := hl
  have w4 : ∀ (n4 : Nat) (y1 y2 : Int32) (H : Heap) (locs : List Loc) (ls : Array Slot), F_X3_usedPipes_4 n4 S N y1 y2 = some res → va_P D classes (wX3 f n cI cC cO S N) H → va_D A (wX3 f n cI cC cO S N) → va_S A s.heap H locs → lv_has ls 4 [(0, .ref (f 0)), (1, .int y1), (2, .int y2)] → W p l e ({ frames := 1, cells := 0, slots := 0, locals := 21 } : Room) s m ([.ref (f 0)] : List Value).toArray below meth c H locs 0 0 (MQ below (QI D cI cC cO A (wX3 f n cI cC cO S N) res) ([.ref (f 0)] : List Value).toArray s 0 0 A) (F0 m 4 ls []) := by
    intro n4
    induction n4 with
    | zero => intro y1 y2 H locs ls h hP hD hS hl; exact absurd (show (none : Option (Int32)) = some res from h) (by simp)
    | succ n4 ih4 =>
      have w17 : ∀ (n17 : Nat) (y1 y2 y3 : Int32) (H : Heap) (locs : List Loc) (ls : Array Slot), F_X3_usedPipes_17 (F_X3_usedPipes_4 n4) n17 S N y1 y2 y3 = some res → va_P D classes (wX3 f n cI cC cO S N) H → va_D A (wX3 f n cI cC cO S N) → va_S A s.heap H locs → lv_has ls 4 [(0, .ref (f 0)), (1, .int y1), (2, .int y2), (3, .int y3)] → W p l e ({ frames := 1, cells := 0, slots := 0, locals := 21 } : Room) s m ([.ref (f 0)] : List Value).toArray below meth c H locs 0 0 (MQ below (QI D cI cC cO A (wX3 f n cI cC cO S N) res) ([.ref (f 0)] : List Value).toArray s 0 0 A) (F0 m 17 ls []) := by
        intro n17
        induction n17 with
        | zero => intro y1 y2 y3 H locs ls h hP hD hS hl; exact absurd (show (none : Option (Int32)) = some res from h) (by simp)
        | succ n17 ih17 =>
          intro y1 y2 y3 H locs ls h hP hD hS hl
          have h : F_X3_usedPipesB_17 (F_X3_usedPipes_4 n4) (F_X3_usedPipes_17 (F_X3_usedPipes_4 n4) n17) S N y1 y2 y3 = some res := h
          unfold F_X3_usedPipesB_17 at h
          refine lv_iload_n hx hb dX3_usedPipes_17 rfl (lv_at hl 3 rfl) ?_
          refine lv_bipush (v := (16 : Int32)) hx hb dX3_usedPipes_18 (by decide) ?_
          refine lv_icmp_ge (tgt := 51) hx hb dX3_usedPipes_20 (by decide) (fun c1 => ?_) (fun c1 => ?_)
          · replace h := fp c1 h
            refine lv_iinc (v := (y2 + 1)) (lv' := [(2, .int (y2 + 1)), (0, .ref (f 0)), (1, .int y1), (3, .int y3)]) hx hb dX3_usedPipes_51 hl (k := 2) rfl rfl (by decide) rfl (fun ls hl => ?_)
            refine lv_goto (tgt := 4) hx hb dX3_usedPipes_54 (by decide) ?_
            exact ih4 y1 (y2 + 1) _ _ ls h hP hD hS (lv_sub hl [1, 2, 0] rfl)
          · replace h := fn c1 h
            refine lv_aload_n hx hb dX3_usedPipes_23 rfl (lv_at hl 0 rfl) ?_
            refine va_get (D := D) (ci := 3) (v := .ref (f 1)) (C := RX3) (T := TX3) (N := 7) hx hb ht i_X3 hown hK hP 0 rfl rfl 1 (by decide) (ht _ wd_76) (fun _ h9 => h9) rfl dX3_usedPipes_24 ?_
            refine lv_iload_n hx hb dX3_usedPipes_27 rfl (lv_at hl 2 rfl) ?_
            refine lv_iload_n hx hb dX3_usedPipes_28 rfl (lv_at hl 3 rfl) ?_
            obtain ⟨u2, e3, h⟩ := b1_ok h
            refine cl_Si (ws' := (wX3 f n cI cC cO S N)) ⟨hx, hb, hml, hown, ht⟩ (c_X3_through l D cI cC cO y2 y3 _ _ e3) (cwst 2 ht wd_297 wd_4 wd_295 wd_296 (by decide +kernel) rfl rfl ⟨Nat.le_of_ble_eq_true rfl, Nat.le_of_ble_eq_true rfl⟩) hK hP hD hS hA hN [] [0, 1, 2, 3, 4, 5, 6, 7, 8] [0, 1, 2, 3, 4, 5, 6, 7, 8] (by decide) rfl rfl (by decide) (by decide) rfl (by decide) rfl hl.1 rfl (Nat.le_of_ble_eq_true rfl) dX3_usedPipes_29 ⟨Nat.le_of_ble_eq_true rfl, Nat.le_of_ble_eq_true rfl⟩ (fun H locs hP hD hS => ?_)
            obtain ⟨u4, e5, h⟩ := b1_ok h
            refine cl_Si (ws' := (wX3 f n cI cC cO S N)) ⟨hx, hb, hml, hown, ht⟩ (c_X3_back l D cI cC cO u2 _ _ e5) (cwst 1 ht wd_308 wd_4 wd_306 wd_307 (by decide +kernel) rfl rfl ⟨Nat.le_of_ble_eq_true rfl, Nat.le_of_ble_eq_true rfl⟩) hK hP hD hS hA hN [] [0, 1, 2, 3, 4, 5, 6, 7, 8] [0, 1, 2, 3, 4, 5, 6, 7, 8] (by decide) rfl rfl (by decide) (by decide) rfl (by decide) rfl hl.1 rfl (Nat.le_of_ble_eq_true rfl) dX3_usedPipes_32 ⟨Nat.le_of_ble_eq_true rfl, Nat.le_of_ble_eq_true rfl⟩ (fun H locs hP hD hS => ?_)
            obtain ⟨i6, h⟩ := ck_ok h
            refine va_iald hx hb hK hP 1 0 rfl rfl i6 dX3_usedPipes_35 ?_
            refine lv_if_le (tgt := 45) hx hb dX3_usedPipes_36 (by decide) (fun c7 => ?_) (fun c7 => ?_)
            · replace h := fp c7 h
              refine lv_iinc (v := (y3 + 1)) (lv' := [(3, .int (y3 + 1)), (0, .ref (f 0)), (1, .int y1), (2, .int y2)]) hx hb dX3_usedPipes_45 hl (k := 3) rfl rfl (by decide) rfl (fun ls hl => ?_)
              refine lv_goto (tgt := 17) hx hb dX3_usedPipes_48 (by decide) ?_
              exact ih17 y1 y2 (y3 + 1) _ _ ls h hP hD hS (lv_sub hl [1, 2, 3, 0] rfl)
            · replace h := fn c7 h
              refine lv_iload_n hx hb dX3_usedPipes_39 rfl (lv_at hl 1 rfl) ?_
              refine lv_iconst (v := (1 : Int32)) hx hb dX3_usedPipes_40 (by decide) ?_
              refine lv_iload_n hx hb dX3_usedPipes_41 rfl (lv_at hl 2 rfl) ?_
              refine lv_ishl hx hb dX3_usedPipes_42 ?_
              refine lv_ior hx hb dX3_usedPipes_43 ?_
              refine lv_istore_n (lv' := [(1, .int (y1 ||| ((1 : Int32) <<< (y2 &&& 31)))), (0, .ref (f 0)), (2, .int y2), (3, .int y3)]) hx hb dX3_usedPipes_44 rfl hl (by decide) rfl (fun ls hl => ?_)
              refine lv_iinc (v := (y3 + 1)) (lv' := [(3, .int (y3 + 1)), (1, .int (y1 ||| ((1 : Int32) <<< (y2 &&& 31)))), (0, .ref (f 0)), (2, .int y2)]) hx hb dX3_usedPipes_45 hl (k := 3) rfl rfl (by decide) rfl (fun ls hl => ?_)
              refine lv_goto (tgt := 17) hx hb dX3_usedPipes_48 (by decide) ?_
              exact ih17 (y1 ||| ((1 : Int32) <<< (y2 &&& 31))) y2 (y3 + 1) _ _ ls h hP hD hS (lv_sub hl [2, 1, 3, 0] rfl)
      intro y1 y2 H locs ls h hP hD hS hl
      have h : F_X3_usedPipesB_4 (F_X3_usedPipes_4 n4) S N y1 y2 = some res := h
      unfold F_X3_usedPipesB_4 at h
      refine lv_iload_n hx hb dX3_usedPipes_4 rfl (lv_at hl 2 rfl) ?_
      refine lv_aload_n hx hb dX3_usedPipes_5 rfl (lv_at hl 0 rfl) ?_
      refine va_get (D := D) (ci := 3) (v := .ref (n 0)) (C := RX3) (T := TX3) (N := 7) hx hb ht i_X3 hown hK hP 0 rfl rfl 0 (by decide) (ht _ wd_75) (fun _ h9 => h9) rfl dX3_usedPipes_6 ?_
      refine va_getN (D := D) (ci := 1) (v := .int (N 3 1)) (C := RX1) (T := TX1) (N := 5) hx hb ht i_X1 hown hK hP 5 rfl rfl 4 (by decide) (va_Nw.use rfl (hN.1 _ _ _ _ _ _ wd_37)) (fun _ h9 => h9) rfl dX3_usedPipes_9 ?_
      refine lv_icmp_ge (tgt := 57) hx hb dX3_usedPipes_12 (by decide) (fun c1 => ?_) (fun c1 => ?_)
      · replace h := fp c1 h
        refine lv_iload_n hx hb dX3_usedPipes_57 rfl (lv_at hl 1 rfl) ?_
        cases h
        exact rt_i hx hb hr hlocks hS hP hK hD dX3_usedPipes_58
      · replace h := fn c1 h
        refine lv_iconst (v := (0 : Int32)) hx hb dX3_usedPipes_15 (by decide) ?_
        refine lv_istore_n (lv' := [(3, .int (0 : Int32)), (0, .ref (f 0)), (1, .int y1), (2, .int y2)]) hx hb dX3_usedPipes_16 rfl hl (by decide) rfl (fun ls hl => ?_)
        exact w17 FU y1 y2 (0 : Int32) _ _ ls h hP hD hS (lv_sub hl [1, 2, 3, 0] rfl)
  unfold F_X3_usedPipes at h
  refine lv_iconst (v := (0 : Int32)) hx hb dX3_usedPipes_0 (by decide) ?_
  refine lv_istore_n (lv' := [(1, .int (0 : Int32)), (0, .ref (f 0))]) hx hb dX3_usedPipes_1 rfl hl (by decide) rfl (fun ls hl => ?_)
  refine lv_iconst (v := (0 : Int32)) hx hb dX3_usedPipes_2 (by decide) ?_
  refine lv_istore_n (lv' := [(2, .int (0 : Int32)), (1, .int (0 : Int32)), (0, .ref (f 0))]) hx hb dX3_usedPipes_3 rfl hl (by decide) rfl (fun ls hl => ?_)
  exact w4 FU (0 : Int32) (0 : Int32) _ _ ls h hP hD hS (lv_sub hl [2, 1, 0] rfl)
theorem dX3_isWanting_0 : decode cX3_isWanting 0 = .ok (.aload_n 0, 1) := by decide +kernel
theorem dX3_isWanting_1 : decode cX3_isWanting 1 = .ok (.getfield 22, 3) := by decide +kernel
theorem dX3_isWanting_4 : decode cX3_isWanting 4 = .ok (.iload_n 1, 1) := by decide +kernel
theorem dX3_isWanting_5 : decode cX3_isWanting 5 = .ok (.bipush 16, 2) := by decide +kernel
theorem dX3_isWanting_7 : decode cX3_isWanting 7 = .ok (.imul, 1) := by decide +kernel
theorem dX3_isWanting_8 : decode cX3_isWanting 8 = .ok (.iload_n 2, 1) := by decide +kernel
theorem dX3_isWanting_9 : decode cX3_isWanting 9 = .ok (.iadd, 1) := by decide +kernel
theorem dX3_isWanting_10 : decode cX3_isWanting 10 = .ok (.iaload, 1) := by decide +kernel
theorem dX3_isWanting_11 : decode cX3_isWanting 11 = .ok (.iconst (-1), 1) := by decide +kernel
theorem dX3_isWanting_12 : decode cX3_isWanting 12 = .ok (.if_icmp .eq 7, 3) := by decide +kernel
theorem dX3_isWanting_15 : decode cX3_isWanting 15 = .ok (.iconst 1, 1) := by decide +kernel
theorem dX3_isWanting_16 : decode cX3_isWanting 16 = .ok (.goto 4, 3) := by decide +kernel
theorem dX3_isWanting_19 : decode cX3_isWanting 19 = .ok (.iconst 0, 1) := by decide +kernel
theorem dX3_isWanting_20 : decode cX3_isWanting 20 = .ok (.ireturn, 1) := by decide +kernel
set_option maxHeartbeats 4000000 in
set_option maxRecDepth 100000 in
theorem c_X3_isWanting (l : Launch) (D : va_G) (cI cC cO : ClassId) (f : Nat → Nat) (n : Nat → Nat) (S : Mm) (N : Mm) (x1 x2 : Int32) (res : Int32) (sz : Nat) (h : F_X3_isWanting S N x1 x2 = some res) : Met l yX3_isWanting (Cond.code yX3_isWanting cX3_isWanting 3 (Option.some Jvm.ClassFile.FieldType.boolean) :: lw_g) ({ frames := 0, cells := 0, slots := 0, locals := 0 } : Room) (va_Pc [.ref (f 0), .int x1, .int x2] (pS D cI cC cO sz (wX3 f n cI cC cO S N))) (QI D cI cC cO (va_A (wX3 f n cI cC cO S N) sz) (wX3 f n cI cC cO S N) res) 0 0 (va_A (wX3 f n cI cC cO S N) sz) := by
  refine Met.ofW (cc := cX3_isWanting) (maxL := 3) (ret := (Option.some Jvm.ClassFile.FieldType.boolean)) (by decide) rfl ?_
  intro p e s m args below meth c s₁ B hml hv
  obtain ⟨rfl, rfl, hP, hK, hD0, hN⟩ := hv
  have hx := B.exec
  have hb := B.bytes
  have hr := B.returns
  have ht : ∀ w ∈ lw_g, w.before ([.ref (f 0), .int x1, .int x2] : List Value).toArray s = true := fun w hw => atoms_spec (ws := Cond.code yX3_isWanting cX3_isWanting 3 (Option.some Jvm.ClassFile.FieldType.boolean) :: lw_g) B.pre w (List.mem_cons_of_mem _ hw)
  have hown : s.vm.findClass RX3 = some m.cls := findClass_of_methodNamed B.named
  have hlocks := B.notSynchronized
  have hD := hD0.self (sz := s.heap.size)
  generalize hAe : va_A (wX3 f n cI cC cO S N) s.heap.size = A at hD ⊢
  have hA : ∀ q : Nat, s.heap.size ≤ q → A q := fun q hq => by rw [← hAe]; exact Or.inr hq
  have hS : va_S A s.heap s.heap [] := va_S.rf
  have hl := lv_entry ([.ref (f 0), .int x1, .int x2]) (n := 3) (Nat.le_of_ble_eq_true rfl)
  rw [lg_entry_eq]
  generalize (lg_sl ([.ref (f 0), .int x1, .int x2]) ++ List.replicate (3 - (lg_sl ([.ref (f 0), .int x1, .int x2])).length) Slot.unset).toArray = ls at hl ⊢
  have hl : lv_has ls 3 [(0, .ref (f 0)), (1, .int x1), (2, .int x2)] := hl
  unfold F_X3_isWanting at h
  refine lv_aload_n hx hb dX3_isWanting_0 rfl (lv_at hl 0 rfl) ?_
  refine va_get (D := D) (ci := 3) (v := .ref (f 2)) (C := RX3) (T := TX3) (N := 7) hx hb ht i_X3 hown hK hP 0 rfl rfl 2 (by decide) (ht _ wd_77) (fun _ h9 => h9) rfl dX3_isWanting_1 ?_
  refine lv_iload_n hx hb dX3_isWanting_4 rfl (lv_at hl 1 rfl) ?_
  refine lv_bipush (v := (16 : Int32)) hx hb dX3_isWanting_5 (by decide) ?_
  refine lv_imul hx hb dX3_isWanting_7 ?_
  refine lv_iload_n hx hb dX3_isWanting_8 rfl (lv_at hl 2 rfl) ?_
  refine lv_iadd hx hb dX3_isWanting_9 ?_
  obtain ⟨i1, h⟩ := ck_ok h
  refine va_iald hx hb hK hP 2 0 rfl rfl i1 dX3_isWanting_10 ?_
  refine lv_iconst (v := (-1 : Int32)) hx hb dX3_isWanting_11 (by decide) ?_
  refine lv_icmp_eq (tgt := 19) hx hb dX3_isWanting_12 (by decide) (fun c2 => ?_) (fun c2 => ?_)
  · replace h := fp c2 h
    refine lv_iconst (v := (0 : Int32)) hx hb dX3_isWanting_19 (by decide) ?_
    cases h
    exact rt_z (v := (0 : Int32)) hx hb hr rfl hlocks hS hP hK hD dX3_isWanting_20
  · replace h := fn c2 h
    refine lv_iconst (v := (1 : Int32)) hx hb dX3_isWanting_15 (by decide) ?_
    refine lv_goto (tgt := 20) hx hb dX3_isWanting_16 (by decide) ?_
    cases h
    exact rt_z (v := (1 : Int32)) hx hb hr rfl hlocks hS hP hK hD dX3_isWanting_20
theorem dX3_isNarrow_0 : decode cX3_isNarrow 0 = .ok (.aload_n 0, 1) := by decide +kernel
theorem dX3_isNarrow_1 : decode cX3_isNarrow 1 = .ok (.getfield 14, 3) := by decide +kernel
theorem dX3_isNarrow_4 : decode cX3_isNarrow 4 = .ok (.iload_n 1, 1) := by decide +kernel
theorem dX3_isNarrow_5 : decode cX3_isNarrow 5 = .ok (.iconst 0, 1) := by decide +kernel
theorem dX3_isNarrow_6 : decode cX3_isNarrow 6 = .ok (.invokevirtual 50, 3) := by decide +kernel
theorem dX3_isNarrow_9 : decode cX3_isNarrow 9 = .ok (.istore_n 3, 1) := by decide +kernel
theorem dX3_isNarrow_10 : decode cX3_isNarrow 10 = .ok (.aload_n 0, 1) := by decide +kernel
theorem dX3_isNarrow_11 : decode cX3_isNarrow 11 = .ok (.getfield 14, 3) := by decide +kernel
theorem dX3_isNarrow_14 : decode cX3_isNarrow 14 = .ok (.iload_n 1, 1) := by decide +kernel
theorem dX3_isNarrow_15 : decode cX3_isNarrow 15 = .ok (.iconst 1, 1) := by decide +kernel
theorem dX3_isNarrow_16 : decode cX3_isNarrow 16 = .ok (.invokevirtual 50, 3) := by decide +kernel
theorem dX3_isNarrow_19 : decode cX3_isNarrow 19 = .ok (.istore 4, 2) := by decide +kernel
theorem dX3_isNarrow_21 : decode cX3_isNarrow 21 = .ok (.aload_n 0, 1) := by decide +kernel
theorem dX3_isNarrow_22 : decode cX3_isNarrow 22 = .ok (.getfield 14, 3) := by decide +kernel
theorem dX3_isNarrow_25 : decode cX3_isNarrow 25 = .ok (.iload_n 1, 1) := by decide +kernel
theorem dX3_isNarrow_26 : decode cX3_isNarrow 26 = .ok (.iconst 2, 1) := by decide +kernel
theorem dX3_isNarrow_27 : decode cX3_isNarrow 27 = .ok (.invokevirtual 50, 3) := by decide +kernel
theorem dX3_isNarrow_30 : decode cX3_isNarrow 30 = .ok (.istore 5, 2) := by decide +kernel
theorem dX3_isNarrow_32 : decode cX3_isNarrow 32 = .ok (.iconst 0, 1) := by decide +kernel
theorem dX3_isNarrow_33 : decode cX3_isNarrow 33 = .ok (.istore 6, 2) := by decide +kernel
theorem dX3_isNarrow_35 : decode cX3_isNarrow 35 = .ok (.iload 6, 2) := by decide +kernel
theorem dX3_isNarrow_37 : decode cX3_isNarrow 37 = .ok (.iload 5, 2) := by decide +kernel
theorem dX3_isNarrow_39 : decode cX3_isNarrow 39 = .ok (.iadd, 1) := by decide +kernel
theorem dX3_isNarrow_40 : decode cX3_isNarrow 40 = .ok (.iload_n 2, 1) := by decide +kernel
theorem dX3_isNarrow_41 : decode cX3_isNarrow 41 = .ok (.if_icmp .gt 60, 3) := by decide +kernel
theorem dX3_isNarrow_44 : decode cX3_isNarrow 44 = .ok (.aload_n 0, 1) := by decide +kernel
theorem dX3_isNarrow_45 : decode cX3_isNarrow 45 = .ok (.getfield 14, 3) := by decide +kernel
theorem dX3_isNarrow_48 : decode cX3_isNarrow 48 = .ok (.iload_n 1, 1) := by decide +kernel
theorem dX3_isNarrow_49 : decode cX3_isNarrow 49 = .ok (.iload 6, 2) := by decide +kernel
theorem dX3_isNarrow_51 : decode cX3_isNarrow 51 = .ok (.invokevirtual 86, 3) := by decide +kernel
theorem dX3_isNarrow_54 : decode cX3_isNarrow 54 = .ok (.ifCond .le 7, 3) := by decide +kernel
theorem dX3_isNarrow_57 : decode cX3_isNarrow 57 = .ok (.iconst 1, 1) := by decide +kernel
theorem dX3_isNarrow_58 : decode cX3_isNarrow 58 = .ok (.goto 4, 3) := by decide +kernel
theorem dX3_isNarrow_61 : decode cX3_isNarrow 61 = .ok (.iconst 0, 1) := by decide +kernel
theorem dX3_isNarrow_62 : decode cX3_isNarrow 62 = .ok (.istore 7, 2) := by decide +kernel
theorem dX3_isNarrow_64 : decode cX3_isNarrow 64 = .ok (.iload 7, 2) := by decide +kernel
theorem dX3_isNarrow_66 : decode cX3_isNarrow 66 = .ok (.ifCond .eq 29, 3) := by decide +kernel
theorem dX3_isNarrow_69 : decode cX3_isNarrow 69 = .ok (.aload_n 0, 1) := by decide +kernel
theorem dX3_isNarrow_70 : decode cX3_isNarrow 70 = .ok (.iload_n 3, 1) := by decide +kernel
theorem dX3_isNarrow_71 : decode cX3_isNarrow 71 = .ok (.iload 6, 2) := by decide +kernel
theorem dX3_isNarrow_73 : decode cX3_isNarrow 73 = .ok (.invokevirtual 89, 3) := by decide +kernel
theorem dX3_isNarrow_76 : decode cX3_isNarrow 76 = .ok (.ifCond .eq 19, 3) := by decide +kernel
theorem dX3_isNarrow_79 : decode cX3_isNarrow 79 = .ok (.aload_n 0, 1) := by decide +kernel
theorem dX3_isNarrow_80 : decode cX3_isNarrow 80 = .ok (.iload 4, 2) := by decide +kernel
theorem dX3_isNarrow_82 : decode cX3_isNarrow 82 = .ok (.iload 6, 2) := by decide +kernel
theorem dX3_isNarrow_84 : decode cX3_isNarrow 84 = .ok (.iload 5, 2) := by decide +kernel
theorem dX3_isNarrow_86 : decode cX3_isNarrow 86 = .ok (.iadd, 1) := by decide +kernel
theorem dX3_isNarrow_87 : decode cX3_isNarrow 87 = .ok (.invokevirtual 89, 3) := by decide +kernel
theorem dX3_isNarrow_90 : decode cX3_isNarrow 90 = .ok (.ifCond .ne 5, 3) := by decide +kernel
theorem dX3_isNarrow_93 : decode cX3_isNarrow 93 = .ok (.iconst 1, 1) := by decide +kernel
theorem dX3_isNarrow_94 : decode cX3_isNarrow 94 = .ok (.ireturn, 1) := by decide +kernel
theorem dX3_isNarrow_95 : decode cX3_isNarrow 95 = .ok (.iinc 6 1, 3) := by decide +kernel
theorem dX3_isNarrow_98 : decode cX3_isNarrow 98 = .ok (.goto (-63), 3) := by decide +kernel
theorem dX3_isNarrow_101 : decode cX3_isNarrow 101 = .ok (.iconst 0, 1) := by decide +kernel
theorem dX3_isNarrow_102 : decode cX3_isNarrow 102 = .ok (.ireturn, 1) := by decide +kernel
set_option maxHeartbeats 4000000 in
set_option maxRecDepth 100000 in
theorem c_X3_isNarrow (l : Launch) (D : va_G) (cI cC cO : ClassId) (f : Nat → Nat) (n : Nat → Nat) (S : Mm) (N : Mm) (x1 x2 : Int32) (res : Int32) (sz : Nat) (h : F_X3_isNarrow S N x1 x2 = some res) : Met l yX3_isNarrow (Cond.code yX3_isNarrow cX3_isNarrow 8 (Option.some Jvm.ClassFile.FieldType.boolean) :: lw_g) ({ frames := 2, cells := 0, slots := 0, locals := 44 } : Room) (va_Pc [.ref (f 0), .int x1, .int x2] (pS D cI cC cO sz (wX3 f n cI cC cO S N))) (QI D cI cC cO (va_A (wX3 f n cI cC cO S N) sz) (wX3 f n cI cC cO S N) res) 0 0 (va_A (wX3 f n cI cC cO S N) sz) := by
  refine Met.ofW (cc := cX3_isNarrow) (maxL := 8) (ret := (Option.some Jvm.ClassFile.FieldType.boolean)) (by decide) rfl ?_
  intro p e s m args below meth c s₁ B hml hv
  obtain ⟨rfl, rfl, hP, hK, hD0, hN⟩ := hv
  have hx := B.exec
  have hb := B.bytes
  have hr := B.returns
  have ht : ∀ w ∈ lw_g, w.before ([.ref (f 0), .int x1, .int x2] : List Value).toArray s = true := fun w hw => atoms_spec (ws := Cond.code yX3_isNarrow cX3_isNarrow 8 (Option.some Jvm.ClassFile.FieldType.boolean) :: lw_g) B.pre w (List.mem_cons_of_mem _ hw)
  have hown : s.vm.findClass RX3 = some m.cls := findClass_of_methodNamed B.named
  have hlocks := B.notSynchronized
  have hD := hD0.self (sz := s.heap.size)
  generalize hAe : va_A (wX3 f n cI cC cO S N) s.heap.size = A at hD ⊢
  have hA : ∀ q : Nat, s.heap.size ≤ q → A q := fun q hq => by rw [← hAe]; exact Or.inr hq
  have hS : va_S A s.heap s.heap [] := va_S.rf
  have hl := lv_entry ([.ref (f 0), .int x1, .int x2]) (n := 8) (Nat.le_of_ble_eq_true rfl)
  rw [lg_entry_eq]
  generalize (lg_sl ([.ref (f 0), .int x1, .int x2]) ++ List.replicate (8 - (lg_sl ([.ref (f 0), .int x1, .int x2])).length) Slot.unset).toArray = ls at hl ⊢
  have hl : lv_has ls 8 [(0, .ref (f 0)), (1, .int x1), (2, .int x2)] := hl
  have w35 : ∀ (n35 : Nat) (y1 y2 y3 y4 y5 y6 : Int32) (H : Heap) (locs : List Loc) (ls : Array Slot), F_X3_isNarrow_35 n35 S N y1 y2 y3 y4 y5 y6 = some res → va_P D classes (wX3 f n cI cC cO S N) H → va_D A (wX3 f n cI cC cO S N) → va_S A s.heap H locs → lv_has ls 8 [(0, .ref (f 0)), (1, .int y1), (2, .int y2), (3, .int y3), (4, .int y4), (5, .int y5), (6, .int y6)] → W p l e ({ frames := 2, cells := 0, slots := 0, locals := 44 } : Room) s m ([.ref (f 0), .int x1, .int x2] : List Value).toArray below meth c H locs 0 0 (MQ below (QI D cI cC cO A (wX3 f n cI cC cO S N) res) ([.ref (f 0), .int x1, .int x2] : List Value).toArray s 0 0 A) (F0 m 35 ls []) := by
    intro n35
    induction n35 with
    | zero => intro y1 y2 y3 y4 y5 y6 H locs ls h hP hD hS hl; exact absurd (show (none : Option (Int32)) = some res from h) (by simp)
    | succ n35 ih35 =>
      have w62 : ∀ (y1 y2 y3 y4 y5 y6 s0 : Int32) (H : Heap) (locs : List Loc) (ls : Array Slot), F_X3_isNarrow_62 (F_X3_isNarrow_35 n35) S N y1 y2 y3 y4 y5 y6 s0 = some res → va_P D classes (wX3 f n cI cC cO S N) H → va_D A (wX3 f n cI cC cO S N) → va_S A s.heap H locs → lv_has ls 8 [(0, .ref (f 0)), (1, .int y1), (2, .int y2), (3, .int y3), (4, .int y4), (5, .int y5), (6, .int y6)] → W p l e ({ frames := 2, cells := 0, slots := 0, locals := 44 } : Room) s m ([.ref (f 0), .int x1, .int x2] : List Value).toArray below meth c H locs 0 0 (MQ below (QI D cI cC cO A (wX3 f n cI cC cO S N) res) ([.ref (f 0), .int x1, .int x2] : List Value).toArray s 0 0 A) (F0 m 62 ls [.int s0]) := by
        intro y1 y2 y3 y4 y5 y6 s0 H locs ls h hP hD hS hl
        unfold F_X3_isNarrow_62 at h
        refine lv_istore (lv' := [(7, .int s0), (0, .ref (f 0)), (1, .int y1), (2, .int y2), (3, .int y3), (4, .int y4), (5, .int y5), (6, .int y6)]) hx hb dX3_isNarrow_62 hl (by decide) rfl (fun ls hl => ?_)
        refine lv_iload hx hb dX3_isNarrow_64 (lv_at hl 0 rfl) ?_
        refine lv_if_eq (tgt := 95) hx hb dX3_isNarrow_66 (by decide) (fun c1 => ?_) (fun c1 => ?_)
        · replace h := fp c1 h
          refine lv_iinc (v := (y6 + 1)) (lv' := [(6, .int (y6 + 1)), (7, .int s0), (0, .ref (f 0)), (1, .int y1), (2, .int y2), (3, .int y3), (4, .int y4), (5, .int y5)]) hx hb dX3_isNarrow_95 hl (k := 7) rfl rfl (by decide) rfl (fun ls hl => ?_)
          refine lv_goto (tgt := 35) hx hb dX3_isNarrow_98 (by decide) ?_
          exact ih35 y1 y2 y3 y4 y5 (y6 + 1) _ _ ls h hP hD hS (lv_sub hl [2, 3, 4, 5, 6, 7, 0] rfl)
        · replace h := fn c1 h
          refine lv_aload_n hx hb dX3_isNarrow_69 rfl (lv_at hl 1 rfl) ?_
          refine lv_iload_n hx hb dX3_isNarrow_70 rfl (lv_at hl 4 rfl) ?_
          refine lv_iload hx hb dX3_isNarrow_71 (lv_at hl 7 rfl) ?_
          obtain ⟨u2, e3, h⟩ := b1_ok h
          refine cl_Vi (ws' := (wX3 f n cI cC cO S N)) ⟨hx, hb, hml, hown, ht⟩ (c_X3_isWanting l D cI cC cO f n S N y3 y6 _ _ e3) (cwv 2 ht wd_390 wd_4 wd_387 wd_388 wd_389 (by decide +kernel) rfl rfl ⟨Nat.le_of_ble_eq_true rfl, Nat.le_of_ble_eq_true rfl⟩) 3 0 rfl rfl rfl hK hP hD hS hA hN [0, 1, 2, 3, 4, 5, 6, 7, 8] [] [0, 1, 2, 3, 4, 5, 6, 7, 8] (by decide) rfl rfl (by decide) (by decide) rfl (by decide) rfl hl.1 rfl (Nat.le_of_ble_eq_true rfl) dX3_isNarrow_73 ⟨Nat.le_of_ble_eq_true rfl, Nat.le_of_ble_eq_true rfl⟩ (fun H locs hP hD hS => ?_)
          refine lv_if_eq (tgt := 95) hx hb dX3_isNarrow_76 (by decide) (fun c4 => ?_) (fun c4 => ?_)
          · replace h := fp c4 h
            refine lv_iinc (v := (y6 + 1)) (lv' := [(6, .int (y6 + 1)), (7, .int s0), (0, .ref (f 0)), (1, .int y1), (2, .int y2), (3, .int y3), (4, .int y4), (5, .int y5)]) hx hb dX3_isNarrow_95 hl (k := 7) rfl rfl (by decide) rfl (fun ls hl => ?_)
            refine lv_goto (tgt := 35) hx hb dX3_isNarrow_98 (by decide) ?_
            exact ih35 y1 y2 y3 y4 y5 (y6 + 1) _ _ ls h hP hD hS (lv_sub hl [2, 3, 4, 5, 6, 7, 0] rfl)
          · replace h := fn c4 h
            refine lv_aload_n hx hb dX3_isNarrow_79 rfl (lv_at hl 1 rfl) ?_
            refine lv_iload hx hb dX3_isNarrow_80 (lv_at hl 5 rfl) ?_
            refine lv_iload hx hb dX3_isNarrow_82 (lv_at hl 7 rfl) ?_
            refine lv_iload hx hb dX3_isNarrow_84 (lv_at hl 6 rfl) ?_
            refine lv_iadd hx hb dX3_isNarrow_86 ?_
            obtain ⟨u5, e6, h⟩ := b1_ok h
            refine cl_Vi (ws' := (wX3 f n cI cC cO S N)) ⟨hx, hb, hml, hown, ht⟩ (c_X3_isWanting l D cI cC cO f n S N y4 (y6 + y5) _ _ e6) (cwv 2 ht wd_390 wd_4 wd_387 wd_388 wd_389 (by decide +kernel) rfl rfl ⟨Nat.le_of_ble_eq_true rfl, Nat.le_of_ble_eq_true rfl⟩) 3 0 rfl rfl rfl hK hP hD hS hA hN [0, 1, 2, 3, 4, 5, 6, 7, 8] [] [0, 1, 2, 3, 4, 5, 6, 7, 8] (by decide) rfl rfl (by decide) (by decide) rfl (by decide) rfl hl.1 rfl (Nat.le_of_ble_eq_true rfl) dX3_isNarrow_87 ⟨Nat.le_of_ble_eq_true rfl, Nat.le_of_ble_eq_true rfl⟩ (fun H locs hP hD hS => ?_)
            refine lv_if_ne (tgt := 95) hx hb dX3_isNarrow_90 (by decide) (fun c7 => ?_) (fun c7 => ?_)
            · replace h := fn c7 h
              refine lv_iinc (v := (y6 + 1)) (lv' := [(6, .int (y6 + 1)), (7, .int s0), (0, .ref (f 0)), (1, .int y1), (2, .int y2), (3, .int y3), (4, .int y4), (5, .int y5)]) hx hb dX3_isNarrow_95 hl (k := 7) rfl rfl (by decide) rfl (fun ls hl => ?_)
              refine lv_goto (tgt := 35) hx hb dX3_isNarrow_98 (by decide) ?_
              exact ih35 y1 y2 y3 y4 y5 (y6 + 1) _ _ ls h hP hD hS (lv_sub hl [2, 3, 4, 5, 6, 7, 0] rfl)
            · replace h := fp c7 h
              refine lv_iconst (v := (1 : Int32)) hx hb dX3_isNarrow_93 (by decide) ?_
              cases h
              exact rt_z (v := (1 : Int32)) hx hb hr rfl hlocks hS hP hK hD dX3_isNarrow_94
      intro y1 y2 y3 y4 y5 y6 H locs ls h hP hD hS hl
      have h : F_X3_isNarrowB_35 (F_X3_isNarrow_35 n35) S N y1 y2 y3 y4 y5 y6 = some res := h
      unfold F_X3_isNarrowB_35 at h
      refine lv_iload hx hb dX3_isNarrow_35 (lv_at hl 6 rfl) ?_
      refine lv_iload hx hb dX3_isNarrow_37 (lv_at hl 5 rfl) ?_
      refine lv_iadd hx hb dX3_isNarrow_39 ?_
      refine lv_iload_n hx hb dX3_isNarrow_40 rfl (lv_at hl 2 rfl) ?_
      refine lv_icmp_gt (tgt := 101) hx hb dX3_isNarrow_41 (by decide) (fun c1 => ?_) (fun c1 => ?_)
      · replace h := fp c1 h
        refine lv_iconst (v := (0 : Int32)) hx hb dX3_isNarrow_101 (by decide) ?_
        cases h
        exact rt_z (v := (0 : Int32)) hx hb hr rfl hlocks hS hP hK hD dX3_isNarrow_102
      · replace h := fn c1 h
        refine lv_aload_n hx hb dX3_isNarrow_44 rfl (lv_at hl 0 rfl) ?_
        refine va_get (D := D) (ci := 3) (v := .ref (n 0)) (C := RX3) (T := TX3) (N := 7) hx hb ht i_X3 hown hK hP 0 rfl rfl 0 (by decide) (ht _ wd_75) (fun _ h9 => h9) rfl dX3_isNarrow_45 ?_
        refine lv_iload_n hx hb dX3_isNarrow_48 rfl (lv_at hl 1 rfl) ?_
        refine lv_iload hx hb dX3_isNarrow_49 (lv_at hl 6 rfl) ?_
        obtain ⟨u2, e3, h⟩ := b1_ok h
        refine cl_Vi (ws' := (wX3 f n cI cC cO S N)) ⟨hx, hb, hml, hown, ht⟩ (c_X1_boundIn l D cI cC cO n N y1 y6 _ _ e3) (cwv 2 ht wd_301 wd_2 wd_298 wd_299 wd_300 (by decide +kernel) rfl rfl ⟨Nat.le_of_ble_eq_true rfl, Nat.le_of_ble_eq_true rfl⟩) 1 0 rfl rfl rfl hK hP hD hS hA hN [5, 6, 7, 8] [0, 1, 2, 3, 4] [0, 1, 2, 3, 4, 5, 6, 7, 8] (by decide) rfl rfl (by decide) (by decide) rfl (by decide) rfl hl.1 rfl (Nat.le_of_ble_eq_true rfl) dX3_isNarrow_51 ⟨Nat.le_of_ble_eq_true rfl, Nat.le_of_ble_eq_true rfl⟩ (fun H locs hP hD hS => ?_)
        refine lv_if_le (tgt := 61) hx hb dX3_isNarrow_54 (by decide) (fun c4 => ?_) (fun c4 => ?_)
        · replace h := fp c4 h
          refine lv_iconst (v := (0 : Int32)) hx hb dX3_isNarrow_61 (by decide) ?_
          exact w62 y1 y2 y3 y4 y5 y6 (0 : Int32) _ _ ls h hP hD hS (lv_sub hl [0, 1, 2, 3, 4, 5, 6] rfl)
        · replace h := fn c4 h
          refine lv_iconst (v := (1 : Int32)) hx hb dX3_isNarrow_57 (by decide) ?_
          refine lv_goto (tgt := 62) hx hb dX3_isNarrow_58 (by decide) ?_
          exact w62 y1 y2 y3 y4 y5 y6 (1 : Int32) _ _ ls h hP hD hS (lv_sub hl [0, 1, 2, 3, 4, 5, 6] rfl)
  unfold F_X3_isNarrow at h
  refine lv_aload_n hx hb dX3_isNarrow_0 rfl (lv_at hl 0 rfl) ?_
  refine va_get (D := D) (ci := 3) (v := .ref (n 0)) (C := RX3) (T := TX3) (N := 7) hx hb ht i_X3 hown hK hP 0 rfl rfl 0 (by decide) (ht _ wd_75) (fun _ h9 => h9) rfl dX3_isNarrow_1 ?_
  refine lv_iload_n hx hb dX3_isNarrow_4 rfl (lv_at hl 1 rfl) ?_
  refine lv_iconst (v := (0 : Int32)) hx hb dX3_isNarrow_5 (by decide) ?_
  obtain ⟨u1, e2, h⟩ := b1_ok h
  refine cl_Vi (ws' := (wX3 f n cI cC cO S N)) ⟨hx, hb, hml, hown, ht⟩ (c_X1_partOf l D cI cC cO n N x1 (0 : Int32) _ _ e2) (cwv 2 ht wd_251 wd_2 wd_332 wd_249 wd_250 (by decide +kernel) rfl rfl ⟨Nat.le_of_ble_eq_true rfl, Nat.le_of_ble_eq_true rfl⟩) 1 0 rfl rfl rfl hK hP hD hS hA hN [5, 6, 7, 8] [0, 1, 2, 3, 4] [0, 1, 2, 3, 4, 5, 6, 7, 8] (by decide) rfl rfl (by decide) (by decide) rfl (by decide) rfl hl.1 rfl (Nat.le_of_ble_eq_true rfl) dX3_isNarrow_6 ⟨Nat.le_of_ble_eq_true rfl, Nat.le_of_ble_eq_true rfl⟩ (fun H locs hP hD hS => ?_)
  refine lv_istore_n (lv' := [(3, .int u1), (0, .ref (f 0)), (1, .int x1), (2, .int x2)]) hx hb dX3_isNarrow_9 rfl hl (by decide) rfl (fun ls hl => ?_)
  refine lv_aload_n hx hb dX3_isNarrow_10 rfl (lv_at hl 1 rfl) ?_
  refine va_get (D := D) (ci := 3) (v := .ref (n 0)) (C := RX3) (T := TX3) (N := 7) hx hb ht i_X3 hown hK hP 0 rfl rfl 0 (by decide) (ht _ wd_75) (fun _ h9 => h9) rfl dX3_isNarrow_11 ?_
  refine lv_iload_n hx hb dX3_isNarrow_14 rfl (lv_at hl 2 rfl) ?_
  refine lv_iconst (v := (1 : Int32)) hx hb dX3_isNarrow_15 (by decide) ?_
  obtain ⟨u3, e4, h⟩ := b1_ok h
  refine cl_Vi (ws' := (wX3 f n cI cC cO S N)) ⟨hx, hb, hml, hown, ht⟩ (c_X1_partOf l D cI cC cO n N x1 (1 : Int32) _ _ e4) (cwv 2 ht wd_251 wd_2 wd_332 wd_249 wd_250 (by decide +kernel) rfl rfl ⟨Nat.le_of_ble_eq_true rfl, Nat.le_of_ble_eq_true rfl⟩) 1 0 rfl rfl rfl hK hP hD hS hA hN [5, 6, 7, 8] [0, 1, 2, 3, 4] [0, 1, 2, 3, 4, 5, 6, 7, 8] (by decide) rfl rfl (by decide) (by decide) rfl (by decide) rfl hl.1 rfl (Nat.le_of_ble_eq_true rfl) dX3_isNarrow_16 ⟨Nat.le_of_ble_eq_true rfl, Nat.le_of_ble_eq_true rfl⟩ (fun H locs hP hD hS => ?_)
  refine lv_istore (lv' := [(4, .int u3), (3, .int u1), (0, .ref (f 0)), (1, .int x1), (2, .int x2)]) hx hb dX3_isNarrow_19 hl (by decide) rfl (fun ls hl => ?_)
  refine lv_aload_n hx hb dX3_isNarrow_21 rfl (lv_at hl 2 rfl) ?_
  refine va_get (D := D) (ci := 3) (v := .ref (n 0)) (C := RX3) (T := TX3) (N := 7) hx hb ht i_X3 hown hK hP 0 rfl rfl 0 (by decide) (ht _ wd_75) (fun _ h9 => h9) rfl dX3_isNarrow_22 ?_
  refine lv_iload_n hx hb dX3_isNarrow_25 rfl (lv_at hl 3 rfl) ?_
  refine lv_iconst (v := (2 : Int32)) hx hb dX3_isNarrow_26 (by decide) ?_
  obtain ⟨u5, e6, h⟩ := b1_ok h
  refine cl_Vi (ws' := (wX3 f n cI cC cO S N)) ⟨hx, hb, hml, hown, ht⟩ (c_X1_partOf l D cI cC cO n N x1 (2 : Int32) _ _ e6) (cwv 2 ht wd_251 wd_2 wd_332 wd_249 wd_250 (by decide +kernel) rfl rfl ⟨Nat.le_of_ble_eq_true rfl, Nat.le_of_ble_eq_true rfl⟩) 1 0 rfl rfl rfl hK hP hD hS hA hN [5, 6, 7, 8] [0, 1, 2, 3, 4] [0, 1, 2, 3, 4, 5, 6, 7, 8] (by decide) rfl rfl (by decide) (by decide) rfl (by decide) rfl hl.1 rfl (Nat.le_of_ble_eq_true rfl) dX3_isNarrow_27 ⟨Nat.le_of_ble_eq_true rfl, Nat.le_of_ble_eq_true rfl⟩ (fun H locs hP hD hS => ?_)
  refine lv_istore (lv' := [(5, .int u5), (4, .int u3), (3, .int u1), (0, .ref (f 0)), (1, .int x1), (2, .int x2)]) hx hb dX3_isNarrow_30 hl (by decide) rfl (fun ls hl => ?_)
  refine lv_iconst (v := (0 : Int32)) hx hb dX3_isNarrow_32 (by decide) ?_
  refine lv_istore (lv' := [(6, .int (0 : Int32)), (5, .int u5), (4, .int u3), (3, .int u1), (0, .ref (f 0)), (1, .int x1), (2, .int x2)]) hx hb dX3_isNarrow_33 hl (by decide) rfl (fun ls hl => ?_)
  exact w35 FU x1 x2 u1 u3 u5 (0 : Int32) _ _ ls h hP hD hS (lv_sub hl [4, 5, 6, 3, 2, 1, 0] rfl)
theorem dX3_narrowPipes_0 : decode cX3_narrowPipes 0 = .ok (.iconst 0, 1) := by decide +kernel
theorem dX3_narrowPipes_1 : decode cX3_narrowPipes 1 = .ok (.istore_n 2, 1) := by decide +kernel
theorem dX3_narrowPipes_2 : decode cX3_narrowPipes 2 = .ok (.iconst 0, 1) := by decide +kernel
theorem dX3_narrowPipes_3 : decode cX3_narrowPipes 3 = .ok (.istore_n 3, 1) := by decide +kernel
theorem dX3_narrowPipes_4 : decode cX3_narrowPipes 4 = .ok (.iload_n 3, 1) := by decide +kernel
theorem dX3_narrowPipes_5 : decode cX3_narrowPipes 5 = .ok (.aload_n 0, 1) := by decide +kernel
theorem dX3_narrowPipes_6 : decode cX3_narrowPipes 6 = .ok (.getfield 14, 3) := by decide +kernel
theorem dX3_narrowPipes_9 : decode cX3_narrowPipes 9 = .ok (.getfield 67, 3) := by decide +kernel
theorem dX3_narrowPipes_12 : decode cX3_narrowPipes 12 = .ok (.if_icmp .ge 24, 3) := by decide +kernel
theorem dX3_narrowPipes_15 : decode cX3_narrowPipes 15 = .ok (.aload_n 0, 1) := by decide +kernel
theorem dX3_narrowPipes_16 : decode cX3_narrowPipes 16 = .ok (.iload_n 3, 1) := by decide +kernel
theorem dX3_narrowPipes_17 : decode cX3_narrowPipes 17 = .ok (.iload_n 1, 1) := by decide +kernel
theorem dX3_narrowPipes_18 : decode cX3_narrowPipes 18 = .ok (.invokevirtual 82, 3) := by decide +kernel
theorem dX3_narrowPipes_21 : decode cX3_narrowPipes 21 = .ok (.ifCond .eq 9, 3) := by decide +kernel
theorem dX3_narrowPipes_24 : decode cX3_narrowPipes 24 = .ok (.iload_n 2, 1) := by decide +kernel
theorem dX3_narrowPipes_25 : decode cX3_narrowPipes 25 = .ok (.iconst 1, 1) := by decide +kernel
theorem dX3_narrowPipes_26 : decode cX3_narrowPipes 26 = .ok (.iload_n 3, 1) := by decide +kernel
theorem dX3_narrowPipes_27 : decode cX3_narrowPipes 27 = .ok (.ishl, 1) := by decide +kernel
theorem dX3_narrowPipes_28 : decode cX3_narrowPipes 28 = .ok (.ior, 1) := by decide +kernel
theorem dX3_narrowPipes_29 : decode cX3_narrowPipes 29 = .ok (.istore_n 2, 1) := by decide +kernel
theorem dX3_narrowPipes_30 : decode cX3_narrowPipes 30 = .ok (.iinc 3 1, 3) := by decide +kernel
theorem dX3_narrowPipes_33 : decode cX3_narrowPipes 33 = .ok (.goto (-29), 3) := by decide +kernel
theorem dX3_narrowPipes_36 : decode cX3_narrowPipes 36 = .ok (.iload_n 2, 1) := by decide +kernel
theorem dX3_narrowPipes_37 : decode cX3_narrowPipes 37 = .ok (.ireturn, 1) := by decide +kernel
set_option maxHeartbeats 4000000 in
set_option maxRecDepth 100000 in
theorem c_X3_narrowPipes (l : Launch) (D : va_G) (cI cC cO : ClassId) (f : Nat → Nat) (n : Nat → Nat) (S : Mm) (N : Mm) (x1 : Int32) (res : Int32) (sz : Nat) (h : F_X3_narrowPipes S N x1 = some res) : Met l yX3_narrowPipes (Cond.code yX3_narrowPipes cX3_narrowPipes 4 (Option.some Jvm.ClassFile.FieldType.int) :: lw_g) ({ frames := 3, cells := 0, slots := 0, locals := 71 } : Room) (va_Pc [.ref (f 0), .int x1] (pS D cI cC cO sz (wX3 f n cI cC cO S N))) (QI D cI cC cO (va_A (wX3 f n cI cC cO S N) sz) (wX3 f n cI cC cO S N) res) 0 0 (va_A (wX3 f n cI cC cO S N) sz) := by
  refine Met.ofW (cc := cX3_narrowPipes) (maxL := 4) (ret := (Option.some Jvm.ClassFile.FieldType.int)) (by decide) rfl ?_
  intro p e s m args below meth c s₁ B hml hv
  obtain ⟨rfl, rfl, hP, hK, hD0, hN⟩ := hv
  have hx := B.exec
  have hb := B.bytes
  have hr := B.returns
  have ht : ∀ w ∈ lw_g, w.before ([.ref (f 0), .int x1] : List Value).toArray s = true := fun w hw => atoms_spec (ws := Cond.code yX3_narrowPipes cX3_narrowPipes 4 (Option.some Jvm.ClassFile.FieldType.int) :: lw_g) B.pre w (List.mem_cons_of_mem _ hw)
  have hown : s.vm.findClass RX3 = some m.cls := findClass_of_methodNamed B.named
  have hlocks := B.notSynchronized
  have hD := hD0.self (sz := s.heap.size)
  generalize hAe : va_A (wX3 f n cI cC cO S N) s.heap.size = A at hD ⊢
  have hA : ∀ q : Nat, s.heap.size ≤ q → A q := fun q hq => by rw [← hAe]; exact Or.inr hq
  have hS : va_S A s.heap s.heap [] := va_S.rf
  have hl := lv_entry ([.ref (f 0), .int x1]) (n := 4) (Nat.le_of_ble_eq_true rfl)
  rw [lg_entry_eq]
  generalize (lg_sl ([.ref (f 0), .int x1]) ++ List.replicate (4 - (lg_sl ([.ref (f 0), .int x1])).length) Slot.unset).toArray = ls at hl ⊢
  have hl : lv_has ls 4 [(0, .ref (f 0)), (1, .int x1)] := hl
  have w4 : ∀ (n4 : Nat) (y1 y2 y3 : Int32) (H : Heap) (locs : List Loc) (ls : Array Slot), F_X3_narrowPipes_4 n4 S N y1 y2 y3 = some res → va_P D classes (wX3 f n cI cC cO S N) H → va_D A (wX3 f n cI cC cO S N) → va_S A s.heap H locs → lv_has ls 4 [(0, .ref (f 0)), (1, .int y1), (2, .int y2), (3, .int y3)] → W p l e ({ frames := 3, cells := 0, slots := 0, locals := 71 } : Room) s m ([.ref (f 0), .int x1] : List Value).toArray below meth c H locs 0 0 (MQ below (QI D cI cC cO A (wX3 f n cI cC cO S N) res) ([.ref (f 0), .int x1] : List Value).toArray s 0 0 A) (F0 m 4 ls []) := by
    intro n4
    induction n4 with
    | zero => intro y1 y2 y3 H locs ls h hP hD hS hl; exact absurd (show (none : Option (Int32)) = some res from h) (by simp)
    | succ n4 ih4 =>
      intro y1 y2 y3 H locs ls h hP hD hS hl
      have h : F_X3_narrowPipesB_4 (F_X3_narrowPipes_4 n4) S N y1 y2 y3 = some res := h
      unfold F_X3_narrowPipesB_4 at h
      refine lv_iload_n hx hb dX3_narrowPipes_4 rfl (lv_at hl 3 rfl) ?_
      refine lv_aload_n hx hb dX3_narrowPipes_5 rfl (lv_at hl 0 rfl) ?_
      refine va_get (D := D) (ci := 3) (v := .ref (n 0)) (C := RX3) (T := TX3) (N := 7) hx hb ht i_X3 hown hK hP 0 rfl rfl 0 (by decide) (ht _ wd_75) (fun _ h9 => h9) rfl dX3_narrowPipes_6 ?_
      refine va_getN (D := D) (ci := 1) (v := .int (N 3 1)) (C := RX1) (T := TX1) (N := 5) hx hb ht i_X1 hown hK hP 5 rfl rfl 4 (by decide) (va_Nw.use rfl (hN.1 _ _ _ _ _ _ wd_37)) (fun _ h9 => h9) rfl dX3_narrowPipes_9 ?_
      refine lv_icmp_ge (tgt := 36) hx hb dX3_narrowPipes_12 (by decide) (fun c1 => ?_) (fun c1 => ?_)
      · replace h := fp c1 h
        refine lv_iload_n hx hb dX3_narrowPipes_36 rfl (lv_at hl 2 rfl) ?_
        cases h
        exact rt_i hx hb hr hlocks hS hP hK hD dX3_narrowPipes_37
      · replace h := fn c1 h
        refine lv_aload_n hx hb dX3_narrowPipes_15 rfl (lv_at hl 0 rfl) ?_
        refine lv_iload_n hx hb dX3_narrowPipes_16 rfl (lv_at hl 3 rfl) ?_
        refine lv_iload_n hx hb dX3_narrowPipes_17 rfl (lv_at hl 1 rfl) ?_
        obtain ⟨u2, e3, h⟩ := b1_ok h
        refine cl_Vi (ws' := (wX3 f n cI cC cO S N)) ⟨hx, hb, hml, hown, ht⟩ (c_X3_isNarrow l D cI cC cO f n S N y3 y1 _ _ e3) (cwv 2 ht wd_386 wd_4 wd_383 wd_385 ws_10 (by decide +kernel) rfl rfl ⟨Nat.le_of_ble_eq_true rfl, Nat.le_of_ble_eq_true rfl⟩) 3 0 rfl rfl rfl hK hP hD hS hA hN [0, 1, 2, 3, 4, 5, 6, 7, 8] [] [0, 1, 2, 3, 4, 5, 6, 7, 8] (by decide) rfl rfl (by decide) (by decide) rfl (by decide) rfl hl.1 rfl (Nat.le_of_ble_eq_true rfl) dX3_narrowPipes_18 ⟨Nat.le_of_ble_eq_true rfl, Nat.le_of_ble_eq_true rfl⟩ (fun H locs hP hD hS => ?_)
        refine lv_if_eq (tgt := 30) hx hb dX3_narrowPipes_21 (by decide) (fun c4 => ?_) (fun c4 => ?_)
        · replace h := fp c4 h
          refine lv_iinc (v := (y3 + 1)) (lv' := [(3, .int (y3 + 1)), (0, .ref (f 0)), (1, .int y1), (2, .int y2)]) hx hb dX3_narrowPipes_30 hl (k := 3) rfl rfl (by decide) rfl (fun ls hl => ?_)
          refine lv_goto (tgt := 4) hx hb dX3_narrowPipes_33 (by decide) ?_
          exact ih4 y1 y2 (y3 + 1) _ _ ls h hP hD hS (lv_sub hl [1, 2, 3, 0] rfl)
        · replace h := fn c4 h
          refine lv_iload_n hx hb dX3_narrowPipes_24 rfl (lv_at hl 2 rfl) ?_
          refine lv_iconst (v := (1 : Int32)) hx hb dX3_narrowPipes_25 (by decide) ?_
          refine lv_iload_n hx hb dX3_narrowPipes_26 rfl (lv_at hl 3 rfl) ?_
          refine lv_ishl hx hb dX3_narrowPipes_27 ?_
          refine lv_ior hx hb dX3_narrowPipes_28 ?_
          refine lv_istore_n (lv' := [(2, .int (y2 ||| ((1 : Int32) <<< (y3 &&& 31)))), (0, .ref (f 0)), (1, .int y1), (3, .int y3)]) hx hb dX3_narrowPipes_29 rfl hl (by decide) rfl (fun ls hl => ?_)
          refine lv_iinc (v := (y3 + 1)) (lv' := [(3, .int (y3 + 1)), (2, .int (y2 ||| ((1 : Int32) <<< (y3 &&& 31)))), (0, .ref (f 0)), (1, .int y1)]) hx hb dX3_narrowPipes_30 hl (k := 3) rfl rfl (by decide) rfl (fun ls hl => ?_)
          refine lv_goto (tgt := 4) hx hb dX3_narrowPipes_33 (by decide) ?_
          exact ih4 y1 (y2 ||| ((1 : Int32) <<< (y3 &&& 31))) (y3 + 1) _ _ ls h hP hD hS (lv_sub hl [2, 3, 1, 0] rfl)
  unfold F_X3_narrowPipes at h
  refine lv_iconst (v := (0 : Int32)) hx hb dX3_narrowPipes_0 (by decide) ?_
  refine lv_istore_n (lv' := [(2, .int (0 : Int32)), (0, .ref (f 0)), (1, .int x1)]) hx hb dX3_narrowPipes_1 rfl hl (by decide) rfl (fun ls hl => ?_)
  refine lv_iconst (v := (0 : Int32)) hx hb dX3_narrowPipes_2 (by decide) ?_
  refine lv_istore_n (lv' := [(3, .int (0 : Int32)), (2, .int (0 : Int32)), (0, .ref (f 0)), (1, .int x1)]) hx hb dX3_narrowPipes_3 rfl hl (by decide) rfl (fun ls hl => ?_)
  exact w4 FU x1 (0 : Int32) (0 : Int32) _ _ ls h hP hD hS (lv_sub hl [2, 3, 1, 0] rfl)
theorem dX2_append_0 : decode cX2_append 0 = .ok (.aload_n 0, 1) := by decide +kernel
theorem dX2_append_1 : decode cX2_append 1 = .ok (.getfield 26, 3) := by decide +kernel
theorem dX2_append_4 : decode cX2_append 4 = .ok (.bipush 60, 2) := by decide +kernel
theorem dX2_append_6 : decode cX2_append 6 = .ok (.if_icmp .lt 6, 3) := by decide +kernel
theorem dX2_append_9 : decode cX2_append 9 = .ok (.ldc 45, 2) := by decide +kernel
theorem dX2_append_11 : decode cX2_append 11 = .ok (.ireturn, 1) := by decide +kernel
theorem dX2_append_12 : decode cX2_append 12 = .ok (.aload_n 0, 1) := by decide +kernel
theorem dX2_append_13 : decode cX2_append 13 = .ok (.getfield 9, 3) := by decide +kernel
theorem dX2_append_16 : decode cX2_append 16 = .ok (.aload_n 0, 1) := by decide +kernel
theorem dX2_append_17 : decode cX2_append 17 = .ok (.getfield 26, 3) := by decide +kernel
theorem dX2_append_20 : decode cX2_append 20 = .ok (.iload_n 1, 1) := by decide +kernel
theorem dX2_append_21 : decode cX2_append 21 = .ok (.castore, 1) := by decide +kernel
theorem dX2_append_22 : decode cX2_append 22 = .ok (.aload_n 0, 1) := by decide +kernel
theorem dX2_append_23 : decode cX2_append 23 = .ok (.dup, 1) := by decide +kernel
theorem dX2_append_24 : decode cX2_append 24 = .ok (.getfield 26, 3) := by decide +kernel
theorem dX2_append_27 : decode cX2_append 27 = .ok (.iconst 1, 1) := by decide +kernel
theorem dX2_append_28 : decode cX2_append 28 = .ok (.iadd, 1) := by decide +kernel
theorem dX2_append_29 : decode cX2_append 29 = .ok (.putfield 26, 3) := by decide +kernel
theorem dX2_append_32 : decode cX2_append 32 = .ok (.aload_n 0, 1) := by decide +kernel
theorem dX2_append_33 : decode cX2_append 33 = .ok (.getfield 26, 3) := by decide +kernel
theorem dX2_append_36 : decode cX2_append 36 = .ok (.ireturn, 1) := by decide +kernel
set_option maxHeartbeats 4000000 in
set_option maxRecDepth 100000 in
theorem c_X2_append (l : Launch) (D : va_G) (cI cC cO : ClassId) (t : Nat → Nat) (r : Nat → Nat) (T : Mm) (R : Mm) (x1 : Int32) (res : Int32 × Mm) (sz : Nat) (h : F_X2_append T R x1 = some res) : Met l yX2_append (Cond.code yX2_append cX2_append 2 (Option.some Jvm.ClassFile.FieldType.int) :: lw_g) ({ frames := 0, cells := 0, slots := 0, locals := 0 } : Room) (va_Pc [.ref (t 0), .int x1] (pS D cI cC cO sz (wX2 t r cI cC cO T R))) (QI D cI cC cO (va_A (wX2 t r cI cC cO T R) sz) (wX2 t r cI cC cO res.2 R) res.1) 0 0 (va_A (wX2 t r cI cC cO T R) sz) := by
  refine Met.ofW (cc := cX2_append) (maxL := 2) (ret := (Option.some Jvm.ClassFile.FieldType.int)) (by decide) rfl ?_
  intro p e s m args below meth c s₁ B hml hv
  obtain ⟨rfl, rfl, hP, hK, hD0, hN⟩ := hv
  have hx := B.exec
  have hb := B.bytes
  have hr := B.returns
  have ht : ∀ w ∈ lw_g, w.before ([.ref (t 0), .int x1] : List Value).toArray s = true := fun w hw => atoms_spec (ws := Cond.code yX2_append cX2_append 2 (Option.some Jvm.ClassFile.FieldType.int) :: lw_g) B.pre w (List.mem_cons_of_mem _ hw)
  have hown : s.vm.findClass RX2 = some m.cls := findClass_of_methodNamed B.named
  have hlocks := B.notSynchronized
  have hD := hD0.self (sz := s.heap.size)
  generalize hAe : va_A (wX2 t r cI cC cO T R) s.heap.size = A at hD ⊢
  have hA : ∀ q : Nat, s.heap.size ≤ q → A q := fun q hq => by rw [← hAe]; exact Or.inr hq
  have hS : va_S A s.heap s.heap [] := va_S.rf
  have hl := lv_entry ([.ref (t 0), .int x1]) (n := 2) (Nat.le_of_ble_eq_true rfl)
  rw [lg_entry_eq]
  generalize (lg_sl ([.ref (t 0), .int x1]) ++ List.replicate (2 - (lg_sl ([.ref (t 0), .int x1])).length) Slot.unset).toArray = ls at hl ⊢
  have hl : lv_has ls 2 [(0, .ref (t 0)), (1, .int x1)] := hl
  unfold F_X2_append at h
  refine lv_aload_n hx hb dX2_append_0 rfl (lv_at hl 0 rfl) ?_
  refine va_get (D := D) (ci := 2) (v := .int (T 2 0)) (C := RX2) (T := TX2) (N := 9) hx hb ht i_X2 hown hK hP 0 rfl rfl 3 (by decide) (ht _ wd_109) (fun _ h9 => h9) rfl dX2_append_1 ?_
  refine lv_bipush (v := (60 : Int32)) hx hb dX2_append_4 (by decide) ?_
  refine lv_icmp_lt (tgt := 12) hx hb dX2_append_6 (by decide) (fun c1 => ?_) (fun c1 => ?_)
  · replace h := fp c1 h
    refine lv_aload_n hx hb dX2_append_12 rfl (lv_at hl 0 rfl) ?_
    refine va_get (D := D) (ci := 2) (v := .ref (t 1)) (C := RX2) (T := TX2) (N := 9) hx hb ht i_X2 hown hK hP 0 rfl rfl 0 (by decide) (ht _ wd_105) (fun _ h9 => h9) rfl dX2_append_13 ?_
    refine lv_aload_n hx hb dX2_append_16 rfl (lv_at hl 0 rfl) ?_
    refine va_get (D := D) (ci := 2) (v := .int (T 2 0)) (C := RX2) (T := TX2) (N := 9) hx hb ht i_X2 hown hK hP 0 rfl rfl 3 (by decide) (ht _ wd_109) (fun _ h9 => h9) rfl dX2_append_17 ?_
    refine lv_iload_n hx hb dX2_append_20 rfl (lv_at hl 1 rfl) ?_
    obtain ⟨i2, h⟩ := ck_ok h
    refine va_cast hx hb hK hP hD hS 1 1 rfl rfl i2 dX2_append_21 (fun H locs hP hD hS => ?_)
    obtain ⟨T3, e4, h⟩ := sv_ok h
    have hP : va_P D classes (wX2 t r cI cC cO T3 R) H := by rw [← e4]; exact hP
    have hD : va_D A (wX2 t r cI cC cO T3 R) := by rw [← e4]; exact hD
    refine lv_aload_n hx hb dX2_append_22 rfl (lv_at hl 0 rfl) ?_
    refine lv_dup hx hb dX2_append_23 rfl ?_
    refine va_get (D := D) (ci := 2) (v := .int (T3 2 0)) (C := RX2) (T := TX2) (N := 9) hx hb ht i_X2 hown hK hP 0 rfl rfl 3 (by decide) (ht _ wd_109) (fun _ h9 => h9) rfl dX2_append_24 ?_
    refine lv_iconst (v := (1 : Int32)) hx hb dX2_append_27 (by decide) ?_
    refine lv_iadd hx hb dX2_append_28 ?_
    refine va_put (D := D) (ci := 2) (v := .int ((T3 2 0) + (1 : Int32))) (ty := .int) (C := RX2) (T := TX2) (N := 9) hx hb ht i_X2 tyX2 tyX2_ok nmX2 hown hK hP hD hS 0 rfl rfl 3 (by decide) (ht _ wd_109) (fun _ h9 => h9) rfl (by decide +kernel) rfl rfl (Nat.le_of_ble_eq_true rfl) dX2_append_29 (fun H locs hP hD hS => ?_)
    obtain ⟨T5, e6, h⟩ := sv_ok h
    have hP : va_P D classes (wX2 t r cI cC cO T5 R) H := by rw [← e6]; exact hP
    have hD : va_D A (wX2 t r cI cC cO T5 R) := by rw [← e6]; exact hD
    refine lv_aload_n hx hb dX2_append_32 rfl (lv_at hl 0 rfl) ?_
    refine va_get (D := D) (ci := 2) (v := .int (T5 2 0)) (C := RX2) (T := TX2) (N := 9) hx hb ht i_X2 hown hK hP 0 rfl rfl 3 (by decide) (ht _ wd_109) (fun _ h9 => h9) rfl dX2_append_33 ?_
    cases h
    exact rt_i hx hb hr hlocks hS hP hK hD dX2_append_36
  · replace h := fn c1 h
    refine lv_ldc hx hb hown (ht _ wd_454) dX2_append_9 ?_
    cases h
    exact rt_i hx hb hr hlocks hS hP hK hD dX2_append_11
theorem dX2_empty_0 : decode cX2_empty 0 = .ok (.aload_n 0, 1) := by decide +kernel
theorem dX2_empty_1 : decode cX2_empty 1 = .ok (.getfield 26, 3) := by decide +kernel
theorem dX2_empty_4 : decode cX2_empty 4 = .ok (.istore_n 1, 1) := by decide +kernel
theorem dX2_empty_5 : decode cX2_empty 5 = .ok (.aload_n 0, 1) := by decide +kernel
theorem dX2_empty_6 : decode cX2_empty 6 = .ok (.iconst 0, 1) := by decide +kernel
theorem dX2_empty_7 : decode cX2_empty 7 = .ok (.putfield 26, 3) := by decide +kernel
theorem dX2_empty_10 : decode cX2_empty 10 = .ok (.iload_n 1, 1) := by decide +kernel
theorem dX2_empty_11 : decode cX2_empty 11 = .ok (.ireturn, 1) := by decide +kernel
set_option maxHeartbeats 4000000 in
set_option maxRecDepth 100000 in
theorem c_X2_empty (l : Launch) (D : va_G) (cI cC cO : ClassId) (t : Nat → Nat) (r : Nat → Nat) (T : Mm) (R : Mm) (res : Int32 × Mm) (sz : Nat) (h : F_X2_empty T R = some res) : Met l yX2_empty (Cond.code yX2_empty cX2_empty 2 (Option.some Jvm.ClassFile.FieldType.int) :: lw_g) ({ frames := 0, cells := 0, slots := 0, locals := 0 } : Room) (va_Pc [.ref (t 0)] (pS D cI cC cO sz (wX2 t r cI cC cO T R))) (QI D cI cC cO (va_A (wX2 t r cI cC cO T R) sz) (wX2 t r cI cC cO res.2 R) res.1) 0 0 (va_A (wX2 t r cI cC cO T R) sz) := by
  refine Met.ofW (cc := cX2_empty) (maxL := 2) (ret := (Option.some Jvm.ClassFile.FieldType.int)) (by decide) rfl ?_
  intro p e s m args below meth c s₁ B hml hv
  obtain ⟨rfl, rfl, hP, hK, hD0, hN⟩ := hv
  have hx := B.exec
  have hb := B.bytes
  have hr := B.returns
  have ht : ∀ w ∈ lw_g, w.before ([.ref (t 0)] : List Value).toArray s = true := fun w hw => atoms_spec (ws := Cond.code yX2_empty cX2_empty 2 (Option.some Jvm.ClassFile.FieldType.int) :: lw_g) B.pre w (List.mem_cons_of_mem _ hw)
  have hown : s.vm.findClass RX2 = some m.cls := findClass_of_methodNamed B.named
  have hlocks := B.notSynchronized
  have hD := hD0.self (sz := s.heap.size)
  generalize hAe : va_A (wX2 t r cI cC cO T R) s.heap.size = A at hD ⊢
  have hA : ∀ q : Nat, s.heap.size ≤ q → A q := fun q hq => by rw [← hAe]; exact Or.inr hq
  have hS : va_S A s.heap s.heap [] := va_S.rf
  have hl := lv_entry ([.ref (t 0)]) (n := 2) (Nat.le_of_ble_eq_true rfl)
  rw [lg_entry_eq]
  generalize (lg_sl ([.ref (t 0)]) ++ List.replicate (2 - (lg_sl ([.ref (t 0)])).length) Slot.unset).toArray = ls at hl ⊢
  have hl : lv_has ls 2 [(0, .ref (t 0))] := hl
  unfold F_X2_empty at h
  refine lv_aload_n hx hb dX2_empty_0 rfl (lv_at hl 0 rfl) ?_
  refine va_get (D := D) (ci := 2) (v := .int (T 2 0)) (C := RX2) (T := TX2) (N := 9) hx hb ht i_X2 hown hK hP 0 rfl rfl 3 (by decide) (ht _ wd_109) (fun _ h9 => h9) rfl dX2_empty_1 ?_
  refine lv_istore_n (lv' := [(1, .int (T 2 0)), (0, .ref (t 0))]) hx hb dX2_empty_4 rfl hl (by decide) rfl (fun ls hl => ?_)
  refine lv_aload_n hx hb dX2_empty_5 rfl (lv_at hl 1 rfl) ?_
  refine lv_iconst (v := (0 : Int32)) hx hb dX2_empty_6 (by decide) ?_
  refine va_put (D := D) (ci := 2) (v := .int (0 : Int32)) (ty := .int) (C := RX2) (T := TX2) (N := 9) hx hb ht i_X2 tyX2 tyX2_ok nmX2 hown hK hP hD hS 0 rfl rfl 3 (by decide) (ht _ wd_109) (fun _ h9 => h9) rfl (by decide +kernel) rfl rfl (Nat.le_of_ble_eq_true rfl) dX2_empty_7 (fun H locs hP hD hS => ?_)
  obtain ⟨T1, e2, h⟩ := sv_ok h
  have hP : va_P D classes (wX2 t r cI cC cO T1 R) H := by rw [← e2]; exact hP
  have hD : va_D A (wX2 t r cI cC cO T1 R) := by rw [← e2]; exact hD
  refine lv_iload_n hx hb dX2_empty_10 rfl (lv_at hl 0 rfl) ?_
  cases h
  exact rt_i hx hb hr hlocks hS hP hK hD dX2_empty_11
theorem dX2_faultPart_0 : decode cX2_faultPart 0 = .ok (.iload_n 1, 1) := by decide +kernel
theorem dX2_faultPart_1 : decode cX2_faultPart 1 = .ok (.ifCond .ne 8, 3) := by decide +kernel
theorem dX2_faultPart_4 : decode cX2_faultPart 4 = .ok (.aload_n 0, 1) := by decide +kernel
theorem dX2_faultPart_5 : decode cX2_faultPart 5 = .ok (.getfield 33, 3) := by decide +kernel
theorem dX2_faultPart_8 : decode cX2_faultPart 8 = .ok (.ireturn, 1) := by decide +kernel
theorem dX2_faultPart_9 : decode cX2_faultPart 9 = .ok (.iload_n 1, 1) := by decide +kernel
theorem dX2_faultPart_10 : decode cX2_faultPart 10 = .ok (.iconst 1, 1) := by decide +kernel
theorem dX2_faultPart_11 : decode cX2_faultPart 11 = .ok (.if_icmp .ne 10, 3) := by decide +kernel
theorem dX2_faultPart_14 : decode cX2_faultPart 14 = .ok (.aload_n 0, 1) := by decide +kernel
theorem dX2_faultPart_15 : decode cX2_faultPart 15 = .ok (.getfield 36, 3) := by decide +kernel
theorem dX2_faultPart_18 : decode cX2_faultPart 18 = .ok (.goto 7, 3) := by decide +kernel
theorem dX2_faultPart_21 : decode cX2_faultPart 21 = .ok (.aload_n 0, 1) := by decide +kernel
theorem dX2_faultPart_22 : decode cX2_faultPart 22 = .ok (.getfield 39, 3) := by decide +kernel
theorem dX2_faultPart_25 : decode cX2_faultPart 25 = .ok (.ireturn, 1) := by decide +kernel
set_option maxHeartbeats 4000000 in
set_option maxRecDepth 100000 in
theorem c_X2_faultPart (l : Launch) (D : va_G) (cI cC cO : ClassId) (t : Nat → Nat) (r : Nat → Nat) (T : Mm) (R : Mm) (x1 : Int32) (res : Int32) (sz : Nat) (h : F_X2_faultPart T R x1 = some res) : Met l yX2_faultPart (Cond.code yX2_faultPart cX2_faultPart 2 (Option.some Jvm.ClassFile.FieldType.int) :: lw_g) ({ frames := 0, cells := 0, slots := 0, locals := 0 } : Room) (va_Pc [.ref (t 0), .int x1] (pS D cI cC cO sz (wX2 t r cI cC cO T R))) (QI D cI cC cO (va_A (wX2 t r cI cC cO T R) sz) (wX2 t r cI cC cO T R) res) 0 0 (va_A (wX2 t r cI cC cO T R) sz) := by
  refine Met.ofW (cc := cX2_faultPart) (maxL := 2) (ret := (Option.some Jvm.ClassFile.FieldType.int)) (by decide) rfl ?_
  intro p e s m args below meth c s₁ B hml hv
  obtain ⟨rfl, rfl, hP, hK, hD0, hN⟩ := hv
  have hx := B.exec
  have hb := B.bytes
  have hr := B.returns
  have ht : ∀ w ∈ lw_g, w.before ([.ref (t 0), .int x1] : List Value).toArray s = true := fun w hw => atoms_spec (ws := Cond.code yX2_faultPart cX2_faultPart 2 (Option.some Jvm.ClassFile.FieldType.int) :: lw_g) B.pre w (List.mem_cons_of_mem _ hw)
  have hown : s.vm.findClass RX2 = some m.cls := findClass_of_methodNamed B.named
  have hlocks := B.notSynchronized
  have hD := hD0.self (sz := s.heap.size)
  generalize hAe : va_A (wX2 t r cI cC cO T R) s.heap.size = A at hD ⊢
  have hA : ∀ q : Nat, s.heap.size ≤ q → A q := fun q hq => by rw [← hAe]; exact Or.inr hq
  have hS : va_S A s.heap s.heap [] := va_S.rf
  have hl := lv_entry ([.ref (t 0), .int x1]) (n := 2) (Nat.le_of_ble_eq_true rfl)
  rw [lg_entry_eq]
  generalize (lg_sl ([.ref (t 0), .int x1]) ++ List.replicate (2 - (lg_sl ([.ref (t 0), .int x1])).length) Slot.unset).toArray = ls at hl ⊢
  have hl : lv_has ls 2 [(0, .ref (t 0)), (1, .int x1)] := hl
  unfold F_X2_faultPart at h
  refine lv_iload_n hx hb dX2_faultPart_0 rfl (lv_at hl 1 rfl) ?_
  refine lv_if_ne (tgt := 9) hx hb dX2_faultPart_1 (by decide) (fun c1 => ?_) (fun c1 => ?_)
  · replace h := fn c1 h
    refine lv_iload_n hx hb dX2_faultPart_9 rfl (lv_at hl 1 rfl) ?_
    refine lv_iconst (v := (1 : Int32)) hx hb dX2_faultPart_10 (by decide) ?_
    refine lv_icmp_ne (tgt := 21) hx hb dX2_faultPart_11 (by decide) (fun c2 => ?_) (fun c2 => ?_)
    · replace h := fn c2 h
      refine lv_aload_n hx hb dX2_faultPart_21 rfl (lv_at hl 0 rfl) ?_
      refine va_get (D := D) (ci := 2) (v := .int (T 2 4)) (C := RX2) (T := TX2) (N := 9) hx hb ht i_X2 hown hK hP 0 rfl rfl 7 (by decide) (ht _ wd_115) (fun _ h9 => h9) rfl dX2_faultPart_22 ?_
      cases h
      exact rt_i hx hb hr hlocks hS hP hK hD dX2_faultPart_25
    · replace h := fp c2 h
      refine lv_aload_n hx hb dX2_faultPart_14 rfl (lv_at hl 0 rfl) ?_
      refine va_get (D := D) (ci := 2) (v := .int (T 2 3)) (C := RX2) (T := TX2) (N := 9) hx hb ht i_X2 hown hK hP 0 rfl rfl 6 (by decide) (ht _ wd_113) (fun _ h9 => h9) rfl dX2_faultPart_15 ?_
      refine lv_goto (tgt := 25) hx hb dX2_faultPart_18 (by decide) ?_
      cases h
      exact rt_i hx hb hr hlocks hS hP hK hD dX2_faultPart_25
  · replace h := fp c1 h
    refine lv_aload_n hx hb dX2_faultPart_4 rfl (lv_at hl 0 rfl) ?_
    refine va_get (D := D) (ci := 2) (v := .int (T 2 2)) (C := RX2) (T := TX2) (N := 9) hx hb ht i_X2 hown hK hP 0 rfl rfl 5 (by decide) (ht _ wd_112) (fun _ h9 => h9) rfl dX2_faultPart_5 ?_
    cases h
    exact rt_i hx hb hr hlocks hS hP hK hD dX2_faultPart_8
theorem dX2_numbersOf_0 : decode cX2_numbersOf 0 = .ok (.iload_n 0, 1) := by decide +kernel
theorem dX2_numbersOf_1 : decode cX2_numbersOf 1 = .ok (.lookupswitch 49 #[(104, 43), (111, 45), (112, 47), (117, 43)], 43) := by decide +kernel
theorem dX2_numbersOf_44 : decode cX2_numbersOf 44 = .ok (.iconst 2, 1) := by decide +kernel
theorem dX2_numbersOf_45 : decode cX2_numbersOf 45 = .ok (.ireturn, 1) := by decide +kernel
theorem dX2_numbersOf_46 : decode cX2_numbersOf 46 = .ok (.iconst 3, 1) := by decide +kernel
theorem dX2_numbersOf_47 : decode cX2_numbersOf 47 = .ok (.ireturn, 1) := by decide +kernel
theorem dX2_numbersOf_48 : decode cX2_numbersOf 48 = .ok (.iconst 4, 1) := by decide +kernel
theorem dX2_numbersOf_49 : decode cX2_numbersOf 49 = .ok (.ireturn, 1) := by decide +kernel
theorem dX2_numbersOf_50 : decode cX2_numbersOf 50 = .ok (.iconst 0, 1) := by decide +kernel
theorem dX2_numbersOf_51 : decode cX2_numbersOf 51 = .ok (.ireturn, 1) := by decide +kernel
set_option maxHeartbeats 4000000 in
set_option maxRecDepth 100000 in
theorem c_X2_numbersOf (l : Launch) (D : va_G) (cI cC cO : ClassId) (x0 : Int32) (res : Int32) (sz : Nat) (h : F_X2_numbersOf x0 = some res) : Met l yX2_numbersOf (Cond.code yX2_numbersOf cX2_numbersOf 1 (Option.some Jvm.ClassFile.FieldType.int) :: lw_g) ({ frames := 0, cells := 0, slots := 0, locals := 0 } : Room) (va_Pc [.int x0] (pS D cI cC cO sz ([] : va_W))) (QI D cI cC cO (va_A ([] : va_W) sz) ([] : va_W) res) 0 0 (va_A ([] : va_W) sz) := by
  refine Met.ofW (cc := cX2_numbersOf) (maxL := 1) (ret := (Option.some Jvm.ClassFile.FieldType.int)) (by decide) rfl ?_
  intro p e s m args below meth c s₁ B hml hv
  obtain ⟨rfl, rfl, hP, hK, hD0, hN⟩ := hv
  have hx := B.exec
  have hb := B.bytes
  have hr := B.returns
  have ht : ∀ w ∈ lw_g, w.before ([.int x0] : List Value).toArray s = true := fun w hw => atoms_spec (ws := Cond.code yX2_numbersOf cX2_numbersOf 1 (Option.some Jvm.ClassFile.FieldType.int) :: lw_g) B.pre w (List.mem_cons_of_mem _ hw)
  have hown : s.vm.findClass RX2 = some m.cls := findClass_of_methodNamed B.named
  have hlocks := B.notSynchronized
  have hD := hD0.self (sz := s.heap.size)
  generalize hAe : va_A ([] : va_W) s.heap.size = A at hD ⊢
  have hA : ∀ q : Nat, s.heap.size ≤ q → A q := fun q hq => by rw [← hAe]; exact Or.inr hq
  have hS : va_S A s.heap s.heap [] := va_S.rf
  have hl := lv_entry ([.int x0]) (n := 1) (Nat.le_of_ble_eq_true rfl)
  rw [lg_entry_eq]
  generalize (lg_sl ([.int x0]) ++ List.replicate (1 - (lg_sl ([.int x0])).length) Slot.unset).toArray = ls at hl ⊢
  have hl : lv_has ls 1 [(0, .int x0)] := hl
  unfold F_X2_numbersOf at h
  refine lv_iload_n hx hb dX2_numbersOf_0 rfl (lv_at hl 0 rfl) ?_
  by_cases c1 : x0 = (104 : Int32)
  · replace h := fp c1 h
    refine lv_lookup (off := 43) (tgt := 44) hx hb dX2_numbersOf_1 (by decide) (by rw [c1]; decide) (by decide) ?_
    refine lv_iconst (v := (2 : Int32)) hx hb dX2_numbersOf_44 (by decide) ?_
    cases h
    exact rt_i hx hb hr hlocks hS hP hK hD dX2_numbersOf_45
  · replace h := fn c1 h
    by_cases c2 : x0 = (111 : Int32)
    · replace h := fp c2 h
      refine lv_lookup (off := 45) (tgt := 46) hx hb dX2_numbersOf_1 (by decide) (by rw [c2]; decide) (by decide) ?_
      refine lv_iconst (v := (3 : Int32)) hx hb dX2_numbersOf_46 (by decide) ?_
      cases h
      exact rt_i hx hb hr hlocks hS hP hK hD dX2_numbersOf_47
    · replace h := fn c2 h
      by_cases c3 : x0 = (112 : Int32)
      · replace h := fp c3 h
        refine lv_lookup (off := 47) (tgt := 48) hx hb dX2_numbersOf_1 (by decide) (by rw [c3]; decide) (by decide) ?_
        refine lv_iconst (v := (4 : Int32)) hx hb dX2_numbersOf_48 (by decide) ?_
        cases h
        exact rt_i hx hb hr hlocks hS hP hK hD dX2_numbersOf_49
      · replace h := fn c3 h
        by_cases c4 : x0 = (117 : Int32)
        · replace h := fp c4 h
          refine lv_lookup (off := 43) (tgt := 44) hx hb dX2_numbersOf_1 (by decide) (by rw [c4]; decide) (by decide) ?_
          refine lv_iconst (v := (2 : Int32)) hx hb dX2_numbersOf_44 (by decide) ?_
          cases h
          exact rt_i hx hb hr hlocks hS hP hK hD dX2_numbersOf_45
        · replace h := fn c4 h
          refine lv_lookup (off := 49) (tgt := 50) hx hb dX2_numbersOf_1 (by decide) (by simp only [lookupswitch.offset_cons, lookupswitch.offset_nil, Array.toList]; rw [if_neg (lk_ne (k := 104) (by decide) c1), if_neg (lk_ne (k := 111) (by decide) c2), if_neg (lk_ne (k := 112) (by decide) c3), if_neg (lk_ne (k := 117) (by decide) c4)] <;> rfl) (by decide) ?_
          refine lv_iconst (v := (0 : Int32)) hx hb dX2_numbersOf_50 (by decide) ?_
          cases h
          exact rt_i hx hb hr hlocks hS hP hK hD dX2_numbersOf_51
theorem dX2_isDigitNext_0 : decode cX2_isDigitNext 0 = .ok (.aload_n 0, 1) := by decide +kernel
theorem dX2_isDigitNext_1 : decode cX2_isDigitNext 1 = .ok (.getfield 30, 3) := by decide +kernel
theorem dX2_isDigitNext_4 : decode cX2_isDigitNext 4 = .ok (.aload_n 0, 1) := by decide +kernel
theorem dX2_isDigitNext_5 : decode cX2_isDigitNext 5 = .ok (.getfield 26, 3) := by decide +kernel
theorem dX2_isDigitNext_8 : decode cX2_isDigitNext 8 = .ok (.if_icmp .ge 26, 3) := by decide +kernel
theorem dX2_isDigitNext_11 : decode cX2_isDigitNext 11 = .ok (.aload_n 0, 1) := by decide +kernel
theorem dX2_isDigitNext_12 : decode cX2_isDigitNext 12 = .ok (.getfield 9, 3) := by decide +kernel
theorem dX2_isDigitNext_15 : decode cX2_isDigitNext 15 = .ok (.aload_n 0, 1) := by decide +kernel
theorem dX2_isDigitNext_16 : decode cX2_isDigitNext 16 = .ok (.getfield 30, 3) := by decide +kernel
theorem dX2_isDigitNext_19 : decode cX2_isDigitNext 19 = .ok (.caload, 1) := by decide +kernel
theorem dX2_isDigitNext_20 : decode cX2_isDigitNext 20 = .ok (.bipush 48, 2) := by decide +kernel
theorem dX2_isDigitNext_22 : decode cX2_isDigitNext 22 = .ok (.bipush 57, 2) := by decide +kernel
theorem dX2_isDigitNext_24 : decode cX2_isDigitNext 24 = .ok (.invokestatic 82, 3) := by decide +kernel
theorem dX2_isDigitNext_27 : decode cX2_isDigitNext 27 = .ok (.ifCond .eq 7, 3) := by decide +kernel
theorem dX2_isDigitNext_30 : decode cX2_isDigitNext 30 = .ok (.iconst 1, 1) := by decide +kernel
theorem dX2_isDigitNext_31 : decode cX2_isDigitNext 31 = .ok (.goto 4, 3) := by decide +kernel
theorem dX2_isDigitNext_34 : decode cX2_isDigitNext 34 = .ok (.iconst 0, 1) := by decide +kernel
theorem dX2_isDigitNext_35 : decode cX2_isDigitNext 35 = .ok (.ireturn, 1) := by decide +kernel
set_option maxHeartbeats 4000000 in
set_option maxRecDepth 100000 in
theorem c_X2_isDigitNext (l : Launch) (D : va_G) (cI cC cO : ClassId) (t : Nat → Nat) (r : Nat → Nat) (T : Mm) (R : Mm) (res : Int32) (sz : Nat) (h : F_X2_isDigitNext T R = some res) : Met l yX2_isDigitNext (Cond.code yX2_isDigitNext cX2_isDigitNext 1 (Option.some Jvm.ClassFile.FieldType.boolean) :: lw_g) ({ frames := 1, cells := 0, slots := 0, locals := 22 } : Room) (va_Pc [.ref (t 0)] (pS D cI cC cO sz (wX2 t r cI cC cO T R))) (QI D cI cC cO (va_A (wX2 t r cI cC cO T R) sz) (wX2 t r cI cC cO T R) res) 0 0 (va_A (wX2 t r cI cC cO T R) sz) := by
  refine Met.ofW (cc := cX2_isDigitNext) (maxL := 1) (ret := (Option.some Jvm.ClassFile.FieldType.boolean)) (by decide) rfl ?_
  intro p e s m args below meth c s₁ B hml hv
  obtain ⟨rfl, rfl, hP, hK, hD0, hN⟩ := hv
  have hx := B.exec
  have hb := B.bytes
  have hr := B.returns
  have ht : ∀ w ∈ lw_g, w.before ([.ref (t 0)] : List Value).toArray s = true := fun w hw => atoms_spec (ws := Cond.code yX2_isDigitNext cX2_isDigitNext 1 (Option.some Jvm.ClassFile.FieldType.boolean) :: lw_g) B.pre w (List.mem_cons_of_mem _ hw)
  have hown : s.vm.findClass RX2 = some m.cls := findClass_of_methodNamed B.named
  have hlocks := B.notSynchronized
  have hD := hD0.self (sz := s.heap.size)
  generalize hAe : va_A (wX2 t r cI cC cO T R) s.heap.size = A at hD ⊢
  have hA : ∀ q : Nat, s.heap.size ≤ q → A q := fun q hq => by rw [← hAe]; exact Or.inr hq
  have hS : va_S A s.heap s.heap [] := va_S.rf
  have hl := lv_entry ([.ref (t 0)]) (n := 1) (Nat.le_of_ble_eq_true rfl)
  rw [lg_entry_eq]
  generalize (lg_sl ([.ref (t 0)]) ++ List.replicate (1 - (lg_sl ([.ref (t 0)])).length) Slot.unset).toArray = ls at hl ⊢
  have hl : lv_has ls 1 [(0, .ref (t 0))] := hl
  unfold F_X2_isDigitNext at h
  refine lv_aload_n hx hb dX2_isDigitNext_0 rfl (lv_at hl 0 rfl) ?_
  refine va_get (D := D) (ci := 2) (v := .int (T 2 1)) (C := RX2) (T := TX2) (N := 9) hx hb ht i_X2 hown hK hP 0 rfl rfl 4 (by decide) (ht _ wd_111) (fun _ h9 => h9) rfl dX2_isDigitNext_1 ?_
  refine lv_aload_n hx hb dX2_isDigitNext_4 rfl (lv_at hl 0 rfl) ?_
  refine va_get (D := D) (ci := 2) (v := .int (T 2 0)) (C := RX2) (T := TX2) (N := 9) hx hb ht i_X2 hown hK hP 0 rfl rfl 3 (by decide) (ht _ wd_109) (fun _ h9 => h9) rfl dX2_isDigitNext_5 ?_
  refine lv_icmp_ge (tgt := 34) hx hb dX2_isDigitNext_8 (by decide) (fun c1 => ?_) (fun c1 => ?_)
  · replace h := fp c1 h
    refine lv_iconst (v := (0 : Int32)) hx hb dX2_isDigitNext_34 (by decide) ?_
    cases h
    exact rt_z (v := (0 : Int32)) hx hb hr rfl hlocks hS hP hK hD dX2_isDigitNext_35
  · replace h := fn c1 h
    refine lv_aload_n hx hb dX2_isDigitNext_11 rfl (lv_at hl 0 rfl) ?_
    refine va_get (D := D) (ci := 2) (v := .ref (t 1)) (C := RX2) (T := TX2) (N := 9) hx hb ht i_X2 hown hK hP 0 rfl rfl 0 (by decide) (ht _ wd_105) (fun _ h9 => h9) rfl dX2_isDigitNext_12 ?_
    refine lv_aload_n hx hb dX2_isDigitNext_15 rfl (lv_at hl 0 rfl) ?_
    refine va_get (D := D) (ci := 2) (v := .int (T 2 1)) (C := RX2) (T := TX2) (N := 9) hx hb ht i_X2 hown hK hP 0 rfl rfl 4 (by decide) (ht _ wd_111) (fun _ h9 => h9) rfl dX2_isDigitNext_16 ?_
    obtain ⟨i2, h⟩ := ck_ok h
    refine va_cald hx hb hK hP 1 1 rfl rfl i2 dX2_isDigitNext_19 ?_
    refine lv_bipush (v := (48 : Int32)) hx hb dX2_isDigitNext_20 (by decide) ?_
    refine lv_bipush (v := (57 : Int32)) hx hb dX2_isDigitNext_22 (by decide) ?_
    obtain ⟨u3, e4, h⟩ := b1_ok h
    refine cl_Ni (ws' := (wX2 t r cI cC cO T R)) ⟨hx, hb, hml, hown, ht⟩ (c_X4_within l D cI cC cO (T 0 (T 2 1).toNatClampNeg) (48 : Int32) (57 : Int32) _ _ e4) ⟨va_cnB 3 ht (gI wd_161) rfl rfl rfl (hN.2 _ _ _ _ wd_491) (ht _ wd_1) (by decide +kernel) ⟨Nat.le_of_ble_eq_true rfl, Nat.le_of_ble_eq_true rfl⟩, ht _ wd_160, trivial⟩ hK hP hD hS hA hN [] [0, 1, 2, 3, 4, 5, 6] [0, 1, 2, 3, 4, 5, 6] (by decide) rfl rfl (by decide) (by decide) rfl (by decide) rfl hl.1 rfl (Nat.le_of_ble_eq_true rfl) dX2_isDigitNext_24 ⟨Nat.le_of_ble_eq_true rfl, Nat.le_of_ble_eq_true rfl⟩ (fun H locs hP hD hS => ?_)
    refine lv_if_eq (tgt := 34) hx hb dX2_isDigitNext_27 (by decide) (fun c5 => ?_) (fun c5 => ?_)
    · replace h := fp c5 h
      refine lv_iconst (v := (0 : Int32)) hx hb dX2_isDigitNext_34 (by decide) ?_
      cases h
      exact rt_z (v := (0 : Int32)) hx hb hr rfl hlocks hS hP hK hD dX2_isDigitNext_35
    · replace h := fn c5 h
      refine lv_iconst (v := (1 : Int32)) hx hb dX2_isDigitNext_30 (by decide) ?_
      refine lv_goto (tgt := 35) hx hb dX2_isDigitNext_31 (by decide) ?_
      cases h
      exact rt_z (v := (1 : Int32)) hx hb hr rfl hlocks hS hP hK hD dX2_isDigitNext_35
theorem dX2_readNumber_0 : decode cX2_readNumber 0 = .ok (.aload_n 0, 1) := by decide +kernel
theorem dX2_readNumber_1 : decode cX2_readNumber 1 = .ok (.invokevirtual 78, 3) := by decide +kernel
theorem dX2_readNumber_4 : decode cX2_readNumber 4 = .ok (.ifCond .ne 5, 3) := by decide +kernel
theorem dX2_readNumber_7 : decode cX2_readNumber 7 = .ok (.iconst 0, 1) := by decide +kernel
theorem dX2_readNumber_8 : decode cX2_readNumber 8 = .ok (.ireturn, 1) := by decide +kernel
theorem dX2_readNumber_9 : decode cX2_readNumber 9 = .ok (.aload_n 0, 1) := by decide +kernel
theorem dX2_readNumber_10 : decode cX2_readNumber 10 = .ok (.getfield 15, 3) := by decide +kernel
theorem dX2_readNumber_13 : decode cX2_readNumber 13 = .ok (.iload_n 1, 1) := by decide +kernel
theorem dX2_readNumber_14 : decode cX2_readNumber 14 = .ok (.aload_n 0, 1) := by decide +kernel
theorem dX2_readNumber_15 : decode cX2_readNumber 15 = .ok (.getfield 9, 3) := by decide +kernel
theorem dX2_readNumber_18 : decode cX2_readNumber 18 = .ok (.aload_n 0, 1) := by decide +kernel
theorem dX2_readNumber_19 : decode cX2_readNumber 19 = .ok (.getfield 30, 3) := by decide +kernel
theorem dX2_readNumber_22 : decode cX2_readNumber 22 = .ok (.caload, 1) := by decide +kernel
theorem dX2_readNumber_23 : decode cX2_readNumber 23 = .ok (.bipush 48, 2) := by decide +kernel
theorem dX2_readNumber_25 : decode cX2_readNumber 25 = .ok (.isub, 1) := by decide +kernel
theorem dX2_readNumber_26 : decode cX2_readNumber 26 = .ok (.iastore, 1) := by decide +kernel
theorem dX2_readNumber_27 : decode cX2_readNumber 27 = .ok (.aload_n 0, 1) := by decide +kernel
theorem dX2_readNumber_28 : decode cX2_readNumber 28 = .ok (.dup, 1) := by decide +kernel
theorem dX2_readNumber_29 : decode cX2_readNumber 29 = .ok (.getfield 30, 3) := by decide +kernel
theorem dX2_readNumber_32 : decode cX2_readNumber 32 = .ok (.iconst 1, 1) := by decide +kernel
theorem dX2_readNumber_33 : decode cX2_readNumber 33 = .ok (.iadd, 1) := by decide +kernel
theorem dX2_readNumber_34 : decode cX2_readNumber 34 = .ok (.putfield 30, 3) := by decide +kernel
theorem dX2_readNumber_37 : decode cX2_readNumber 37 = .ok (.aload_n 0, 1) := by decide +kernel
theorem dX2_readNumber_38 : decode cX2_readNumber 38 = .ok (.invokevirtual 78, 3) := by decide +kernel
theorem dX2_readNumber_41 : decode cX2_readNumber 41 = .ok (.ifCond .eq 41, 3) := by decide +kernel
theorem dX2_readNumber_44 : decode cX2_readNumber 44 = .ok (.aload_n 0, 1) := by decide +kernel
theorem dX2_readNumber_45 : decode cX2_readNumber 45 = .ok (.getfield 15, 3) := by decide +kernel
theorem dX2_readNumber_48 : decode cX2_readNumber 48 = .ok (.iload_n 1, 1) := by decide +kernel
theorem dX2_readNumber_49 : decode cX2_readNumber 49 = .ok (.aload_n 0, 1) := by decide +kernel
theorem dX2_readNumber_50 : decode cX2_readNumber 50 = .ok (.getfield 15, 3) := by decide +kernel
theorem dX2_readNumber_53 : decode cX2_readNumber 53 = .ok (.iload_n 1, 1) := by decide +kernel
theorem dX2_readNumber_54 : decode cX2_readNumber 54 = .ok (.iaload, 1) := by decide +kernel
theorem dX2_readNumber_55 : decode cX2_readNumber 55 = .ok (.bipush 10, 2) := by decide +kernel
theorem dX2_readNumber_57 : decode cX2_readNumber 57 = .ok (.imul, 1) := by decide +kernel
theorem dX2_readNumber_58 : decode cX2_readNumber 58 = .ok (.aload_n 0, 1) := by decide +kernel
theorem dX2_readNumber_59 : decode cX2_readNumber 59 = .ok (.getfield 9, 3) := by decide +kernel
theorem dX2_readNumber_62 : decode cX2_readNumber 62 = .ok (.aload_n 0, 1) := by decide +kernel
theorem dX2_readNumber_63 : decode cX2_readNumber 63 = .ok (.getfield 30, 3) := by decide +kernel
theorem dX2_readNumber_66 : decode cX2_readNumber 66 = .ok (.caload, 1) := by decide +kernel
theorem dX2_readNumber_67 : decode cX2_readNumber 67 = .ok (.iadd, 1) := by decide +kernel
theorem dX2_readNumber_68 : decode cX2_readNumber 68 = .ok (.bipush 48, 2) := by decide +kernel
theorem dX2_readNumber_70 : decode cX2_readNumber 70 = .ok (.isub, 1) := by decide +kernel
theorem dX2_readNumber_71 : decode cX2_readNumber 71 = .ok (.iastore, 1) := by decide +kernel
theorem dX2_readNumber_72 : decode cX2_readNumber 72 = .ok (.aload_n 0, 1) := by decide +kernel
theorem dX2_readNumber_73 : decode cX2_readNumber 73 = .ok (.dup, 1) := by decide +kernel
theorem dX2_readNumber_74 : decode cX2_readNumber 74 = .ok (.getfield 30, 3) := by decide +kernel
theorem dX2_readNumber_77 : decode cX2_readNumber 77 = .ok (.iconst 1, 1) := by decide +kernel
theorem dX2_readNumber_78 : decode cX2_readNumber 78 = .ok (.iadd, 1) := by decide +kernel
theorem dX2_readNumber_79 : decode cX2_readNumber 79 = .ok (.putfield 30, 3) := by decide +kernel
theorem dX2_readNumber_82 : decode cX2_readNumber 82 = .ok (.iconst 1, 1) := by decide +kernel
theorem dX2_readNumber_83 : decode cX2_readNumber 83 = .ok (.ireturn, 1) := by decide +kernel
set_option maxHeartbeats 4000000 in
set_option maxRecDepth 100000 in
theorem c_X2_readNumber (l : Launch) (D : va_G) (cI cC cO : ClassId) (t : Nat → Nat) (r : Nat → Nat) (T : Mm) (R : Mm) (x1 : Int32) (res : Int32 × Mm) (sz : Nat) (h : F_X2_readNumber T R x1 = some res) : Met l yX2_readNumber (Cond.code yX2_readNumber cX2_readNumber 2 (Option.some Jvm.ClassFile.FieldType.boolean) :: lw_g) ({ frames := 2, cells := 0, slots := 0, locals := 42 } : Room) (va_Pc [.ref (t 0), .int x1] (pS D cI cC cO sz (wX2 t r cI cC cO T R))) (QI D cI cC cO (va_A (wX2 t r cI cC cO T R) sz) (wX2 t r cI cC cO res.2 R) res.1) 0 0 (va_A (wX2 t r cI cC cO T R) sz) := by
  refine Met.ofW (cc := cX2_readNumber) (maxL := 2) (ret := (Option.some Jvm.ClassFile.FieldType.boolean)) (by decide) rfl ?_
  intro p e s m args below meth c s₁ B hml hv
  obtain ⟨rfl, rfl, hP, hK, hD0, hN⟩ := hv
  have hx := B.exec
  have hb := B.bytes
  have hr := B.returns
  have ht : ∀ w ∈ lw_g, w.before ([.ref (t 0), .int x1] : List Value).toArray s = true := fun w hw => atoms_spec (ws := Cond.code yX2_readNumber cX2_readNumber 2 (Option.some Jvm.ClassFile.FieldType.boolean) :: lw_g) B.pre w (List.mem_cons_of_mem _ hw)
  have hown : s.vm.findClass RX2 = some m.cls := findClass_of_methodNamed B.named
  have hlocks := B.notSynchronized
  have hD := hD0.self (sz := s.heap.size)
  generalize hAe : va_A (wX2 t r cI cC cO T R) s.heap.size = A at hD ⊢
  have hA : ∀ q : Nat, s.heap.size ≤ q → A q := fun q hq => by rw [← hAe]; exact Or.inr hq
  have hS : va_S A s.heap s.heap [] := va_S.rf
  have hl := lv_entry ([.ref (t 0), .int x1]) (n := 2) (Nat.le_of_ble_eq_true rfl)
  rw [lg_entry_eq]
  generalize (lg_sl ([.ref (t 0), .int x1]) ++ List.replicate (2 - (lg_sl ([.ref (t 0), .int x1])).length) Slot.unset).toArray = ls at hl ⊢
  have hl : lv_has ls 2 [(0, .ref (t 0)), (1, .int x1)] := hl
  unfold F_X2_readNumber at h
  refine lv_aload_n hx hb dX2_readNumber_0 rfl (lv_at hl 0 rfl) ?_
  obtain ⟨u1, e2, h⟩ := b1_ok h
  refine cl_Vi (ws' := (wX2 t r cI cC cO T R)) ⟨hx, hb, hml, hown, ht⟩ (c_X2_isDigitNext l D cI cC cO t r T R _ _ e2) (cwv 0 ht wd_490 wd_5 wd_487 wd_489 ws_14 (by decide +kernel) rfl rfl ⟨Nat.le_of_ble_eq_true rfl, Nat.le_of_ble_eq_true rfl⟩) 2 0 rfl rfl rfl hK hP hD hS hA hN [0, 1, 2, 3, 4, 5, 6] [] [0, 1, 2, 3, 4, 5, 6] (by decide) rfl rfl (by decide) (by decide) rfl (by decide) rfl hl.1 rfl (Nat.le_of_ble_eq_true rfl) dX2_readNumber_1 ⟨Nat.le_of_ble_eq_true rfl, Nat.le_of_ble_eq_true rfl⟩ (fun H locs hP hD hS => ?_)
  refine lv_if_ne (tgt := 9) hx hb dX2_readNumber_4 (by decide) (fun c3 => ?_) (fun c3 => ?_)
  · replace h := fn c3 h
    refine lv_aload_n hx hb dX2_readNumber_9 rfl (lv_at hl 0 rfl) ?_
    refine va_get (D := D) (ci := 2) (v := .ref (t 2)) (C := RX2) (T := TX2) (N := 9) hx hb ht i_X2 hown hK hP 0 rfl rfl 1 (by decide) (ht _ wd_106) (fun _ h9 => h9) rfl dX2_readNumber_10 ?_
    refine lv_iload_n hx hb dX2_readNumber_13 rfl (lv_at hl 1 rfl) ?_
    refine lv_aload_n hx hb dX2_readNumber_14 rfl (lv_at hl 0 rfl) ?_
    refine va_get (D := D) (ci := 2) (v := .ref (t 1)) (C := RX2) (T := TX2) (N := 9) hx hb ht i_X2 hown hK hP 0 rfl rfl 0 (by decide) (ht _ wd_105) (fun _ h9 => h9) rfl dX2_readNumber_15 ?_
    refine lv_aload_n hx hb dX2_readNumber_18 rfl (lv_at hl 0 rfl) ?_
    refine va_get (D := D) (ci := 2) (v := .int (T 2 1)) (C := RX2) (T := TX2) (N := 9) hx hb ht i_X2 hown hK hP 0 rfl rfl 4 (by decide) (ht _ wd_111) (fun _ h9 => h9) rfl dX2_readNumber_19 ?_
    obtain ⟨i4, h⟩ := ck_ok h
    refine va_cald hx hb hK hP 1 1 rfl rfl i4 dX2_readNumber_22 ?_
    refine lv_bipush (v := (48 : Int32)) hx hb dX2_readNumber_23 (by decide) ?_
    refine lv_isub hx hb dX2_readNumber_25 ?_
    obtain ⟨i5, h⟩ := ck_ok h
    refine va_iast hx hb hK hP hD hS 2 0 rfl rfl i5 dX2_readNumber_26 (fun H locs hP hD hS => ?_)
    obtain ⟨T6, e7, h⟩ := sv_ok h
    have hP : va_P D classes (wX2 t r cI cC cO T6 R) H := by rw [← e7]; exact hP
    have hD : va_D A (wX2 t r cI cC cO T6 R) := by rw [← e7]; exact hD
    refine lv_aload_n hx hb dX2_readNumber_27 rfl (lv_at hl 0 rfl) ?_
    refine lv_dup hx hb dX2_readNumber_28 rfl ?_
    refine va_get (D := D) (ci := 2) (v := .int (T6 2 1)) (C := RX2) (T := TX2) (N := 9) hx hb ht i_X2 hown hK hP 0 rfl rfl 4 (by decide) (ht _ wd_111) (fun _ h9 => h9) rfl dX2_readNumber_29 ?_
    refine lv_iconst (v := (1 : Int32)) hx hb dX2_readNumber_32 (by decide) ?_
    refine lv_iadd hx hb dX2_readNumber_33 ?_
    refine va_put (D := D) (ci := 2) (v := .int ((T6 2 1) + (1 : Int32))) (ty := .int) (C := RX2) (T := TX2) (N := 9) hx hb ht i_X2 tyX2 tyX2_ok nmX2 hown hK hP hD hS 0 rfl rfl 4 (by decide) (ht _ wd_111) (fun _ h9 => h9) rfl (by decide +kernel) rfl rfl (Nat.le_of_ble_eq_true rfl) dX2_readNumber_34 (fun H locs hP hD hS => ?_)
    obtain ⟨T8, e9, h⟩ := sv_ok h
    have hP : va_P D classes (wX2 t r cI cC cO T8 R) H := by rw [← e9]; exact hP
    have hD : va_D A (wX2 t r cI cC cO T8 R) := by rw [← e9]; exact hD
    refine lv_aload_n hx hb dX2_readNumber_37 rfl (lv_at hl 0 rfl) ?_
    obtain ⟨u10, e11, h⟩ := b1_ok h
    refine cl_Vi (ws' := (wX2 t r cI cC cO T8 R)) ⟨hx, hb, hml, hown, ht⟩ (c_X2_isDigitNext l D cI cC cO t r T8 R _ _ e11) (cwv 0 ht wd_490 wd_5 wd_487 wd_489 ws_14 (by decide +kernel) rfl rfl ⟨Nat.le_of_ble_eq_true rfl, Nat.le_of_ble_eq_true rfl⟩) 2 0 rfl rfl rfl hK hP hD hS hA hN [0, 1, 2, 3, 4, 5, 6] [] [0, 1, 2, 3, 4, 5, 6] (by decide) rfl rfl (by decide) (by decide) rfl (by decide) rfl hl.1 rfl (Nat.le_of_ble_eq_true rfl) dX2_readNumber_38 ⟨Nat.le_of_ble_eq_true rfl, Nat.le_of_ble_eq_true rfl⟩ (fun H locs hP hD hS => ?_)
    refine lv_if_eq (tgt := 82) hx hb dX2_readNumber_41 (by decide) (fun c12 => ?_) (fun c12 => ?_)
    · replace h := fp c12 h
      refine lv_iconst (v := (1 : Int32)) hx hb dX2_readNumber_82 (by decide) ?_
      cases h
      exact rt_z (v := (1 : Int32)) hx hb hr rfl hlocks hS hP hK hD dX2_readNumber_83
    · replace h := fn c12 h
      refine lv_aload_n hx hb dX2_readNumber_44 rfl (lv_at hl 0 rfl) ?_
      refine va_get (D := D) (ci := 2) (v := .ref (t 2)) (C := RX2) (T := TX2) (N := 9) hx hb ht i_X2 hown hK hP 0 rfl rfl 1 (by decide) (ht _ wd_106) (fun _ h9 => h9) rfl dX2_readNumber_45 ?_
      refine lv_iload_n hx hb dX2_readNumber_48 rfl (lv_at hl 1 rfl) ?_
      refine lv_aload_n hx hb dX2_readNumber_49 rfl (lv_at hl 0 rfl) ?_
      refine va_get (D := D) (ci := 2) (v := .ref (t 2)) (C := RX2) (T := TX2) (N := 9) hx hb ht i_X2 hown hK hP 0 rfl rfl 1 (by decide) (ht _ wd_106) (fun _ h9 => h9) rfl dX2_readNumber_50 ?_
      refine lv_iload_n hx hb dX2_readNumber_53 rfl (lv_at hl 1 rfl) ?_
      obtain ⟨i13, h⟩ := ck_ok h
      refine va_iald hx hb hK hP 2 0 rfl rfl i13 dX2_readNumber_54 ?_
      refine lv_bipush (v := (10 : Int32)) hx hb dX2_readNumber_55 (by decide) ?_
      refine lv_imul hx hb dX2_readNumber_57 ?_
      refine lv_aload_n hx hb dX2_readNumber_58 rfl (lv_at hl 0 rfl) ?_
      refine va_get (D := D) (ci := 2) (v := .ref (t 1)) (C := RX2) (T := TX2) (N := 9) hx hb ht i_X2 hown hK hP 0 rfl rfl 0 (by decide) (ht _ wd_105) (fun _ h9 => h9) rfl dX2_readNumber_59 ?_
      refine lv_aload_n hx hb dX2_readNumber_62 rfl (lv_at hl 0 rfl) ?_
      refine va_get (D := D) (ci := 2) (v := .int (T8 2 1)) (C := RX2) (T := TX2) (N := 9) hx hb ht i_X2 hown hK hP 0 rfl rfl 4 (by decide) (ht _ wd_111) (fun _ h9 => h9) rfl dX2_readNumber_63 ?_
      obtain ⟨i14, h⟩ := ck_ok h
      refine va_cald hx hb hK hP 1 1 rfl rfl i14 dX2_readNumber_66 ?_
      refine lv_iadd hx hb dX2_readNumber_67 ?_
      refine lv_bipush (v := (48 : Int32)) hx hb dX2_readNumber_68 (by decide) ?_
      refine lv_isub hx hb dX2_readNumber_70 ?_
      obtain ⟨i15, h⟩ := ck_ok h
      refine va_iast hx hb hK hP hD hS 2 0 rfl rfl i15 dX2_readNumber_71 (fun H locs hP hD hS => ?_)
      obtain ⟨T16, e17, h⟩ := sv_ok h
      have hP : va_P D classes (wX2 t r cI cC cO T16 R) H := by rw [← e17]; exact hP
      have hD : va_D A (wX2 t r cI cC cO T16 R) := by rw [← e17]; exact hD
      refine lv_aload_n hx hb dX2_readNumber_72 rfl (lv_at hl 0 rfl) ?_
      refine lv_dup hx hb dX2_readNumber_73 rfl ?_
      refine va_get (D := D) (ci := 2) (v := .int (T16 2 1)) (C := RX2) (T := TX2) (N := 9) hx hb ht i_X2 hown hK hP 0 rfl rfl 4 (by decide) (ht _ wd_111) (fun _ h9 => h9) rfl dX2_readNumber_74 ?_
      refine lv_iconst (v := (1 : Int32)) hx hb dX2_readNumber_77 (by decide) ?_
      refine lv_iadd hx hb dX2_readNumber_78 ?_
      refine va_put (D := D) (ci := 2) (v := .int ((T16 2 1) + (1 : Int32))) (ty := .int) (C := RX2) (T := TX2) (N := 9) hx hb ht i_X2 tyX2 tyX2_ok nmX2 hown hK hP hD hS 0 rfl rfl 4 (by decide) (ht _ wd_111) (fun _ h9 => h9) rfl (by decide +kernel) rfl rfl (Nat.le_of_ble_eq_true rfl) dX2_readNumber_79 (fun H locs hP hD hS => ?_)
      obtain ⟨T18, e19, h⟩ := sv_ok h
      have hP : va_P D classes (wX2 t r cI cC cO T18 R) H := by rw [← e19]; exact hP
      have hD : va_D A (wX2 t r cI cC cO T18 R) := by rw [← e19]; exact hD
      refine lv_iconst (v := (1 : Int32)) hx hb dX2_readNumber_82 (by decide) ?_
      cases h
      exact rt_z (v := (1 : Int32)) hx hb hr rfl hlocks hS hP hK hD dX2_readNumber_83
  · replace h := fp c3 h
    refine lv_iconst (v := (0 : Int32)) hx hb dX2_readNumber_7 (by decide) ?_
    cases h
    exact rt_z (v := (0 : Int32)) hx hb hr rfl hlocks hS hP hK hD dX2_readNumber_8
